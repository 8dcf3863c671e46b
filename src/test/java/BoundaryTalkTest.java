/** The trees' terms and promises 19 to 31: each sentence of the document that names a boundary case. */
public final class BoundaryTalkTest {
    private static final Sentences DOC = new Sentences();
    private static final int TERMS = Sentences.TERMS;
    private static final int NONE = TalkTables.NONE;
    private static final int LEAST = Integer.MIN_VALUE;
    private static final int MOST = Integer.MAX_VALUE;

    /** No two cells of a row or column are alike, so each of the 36 has a leaf of its own. */
    private static final String ALL_UNLIKE = "012345;123450;234501;345012;450123;501234;";

    // ---- all trees

    private static void isBest(String text, int worst, int leaves, int sum) {
        TalkTables x = Check.of(text);
        DOC.due(text + " best 0", x.best(0), worst);
        DOC.due(text + " best 1", x.best(1), leaves);
        DOC.due(text + " best 2", x.best(2), sum);
    }

    private static void best() {
        DOC.says(TERMS, "BEST 0: the least worst COST (over all CELLS, FREE ones, too) of a RIGHT TREE, "
                + "1: the fewest leaves, 2: the least sum of COSTS of CELLS that are not FREE.");
        isBest(".;", 0, 1, 0);
        isBest(Sentences.filled(6, 6, '.') + "cost 9 9;", 0, 1, 0);
        isBest("5.;.5;cost 9 9;", 0, 1, 0);
        isBest(Sentences.filled(6, 6, '9'), 0, 1, 0);
        isBest("1..;..0;", 1, 2, 2);
        isBest("1.....;0.....;cost 9 1;", 9, 2, 18);
        isBest("012345;cost 9 9;", 27, 6, 144);
        TalkTables all = Check.of(ALL_UNLIKE + "cost 9 9;");
        DOC.due("the dearest", all.best(0), 54);
        DOC.due("the most leaves", all.best(1), 36);

        DOC.says(TERMS, "A TREE is RIGHT, if it tells the VALUE of each CELL that is not FREE.");
        isBest("1.;.1;", 0, 1, 0);
        isBest("1.;01;", 2, 3, 5);
        DOC.due("a free cell is not told wrong", Check.of("1.;.1;tree t leaf 1;").tree(0, 4), 0);
        DOC.due("another is", Check.of("1.;01;tree t leaf 1;").tree(0, 4), 1);

        DOC.says(19, "BEST what 0, 1, 2; NONE for others.");
        for (int what : new int[] {-2, -1, 3, 4, LEAST, MOST}) {
            DOC.due("best " + what, all.best(what), NONE);
            DOC.due("of a new object, best " + what, new TalkTables().best(what), NONE);
        }
    }

    private static void turns(String text, int... least) {
        TalkTables x = Check.of(text);
        for (int k = 0; k < 6; k++) {
            DOC.due(text + " byTurns " + k, x.byTurns(k), least[k]);
        }
        for (int k = 5; k >= 0; k--) {
            DOC.due(text + " again " + k, x.byTurns(k), least[k]);
        }
    }

    private static void byTurns() {
        DOC.says(TERMS, "if who talks changes k times at most on any way (who begins is not a change).");
        turns("0;1;2;", 2, 2, 2, 2, 2, 2);
        turns("012345;cost 9 9;", 27, 27, 27, 27, 27, 27);
        turns("10;01;cost 2 9;", NONE, 11, 11, 11, 11, 11);
        turns("12.20;20.10;21..0;.0.12;cost 2 2;", NONE, 8, 6, 6, 6, 6);
        turns("120130;133332;.10020;111313;011002;", NONE, 5, 5, 4, 4, 4);

        DOC.says(20, "BEST with at most k (0 .. 5) TURNS; NONE if it can't be, for another k.");
        turns("5.;.5;", 0, 0, 0, 0, 0, 0);
        turns(".;", 0, 0, 0, 0, 0, 0);
        turns("1.;.0;", 1, 1, 1, 1, 1, 1);
        turns("10;0.;", NONE, 2, 2, 2, 2, 2);
        for (int k : new int[] {-2, -1, 6, 7, LEAST, MOST}) {
            DOC.due("byTurns " + k, Check.of("0;1;2;").byTurns(k), NONE);
            DOC.due("of a new object, byTurns " + k, new TalkTables().byTurns(k), NONE);
        }
    }

    /** Nodes as kind, content and second part, one behind the other. */
    private static void isTree(String text, int how, int... nodes) {
        TalkTables x = Check.of(text);
        DOC.due(text + " nodes by " + how, x.node(how, NONE, 0), nodes.length / 3);
        for (int i = 0; i < nodes.length; i++) {
            DOC.due(text + " by " + how + " node " + i / 3 + " what " + i % 3,
                    x.node(how, i / 3, i % 3), nodes[i]);
        }
        DOC.due(text + " by " + how + " behind", x.node(how, nodes.length / 3, 0), NONE);
    }

    private static void bestTrees() {
        DOC.says(TERMS, "if it is ALIKE, a leaf (its VALUE; 0 if all are FREE)");
        for (int how = 0; how < 3; how++) {
            isTree(".;", how, 0, 0, NONE);
            isTree(Sentences.filled(6, 6, '.'), how, 0, 0, NONE);
            isTree("9.;", how, 0, 9, NONE);
            isTree("0;0;", how, 0, 0, NONE);
        }

        DOC.says(TERMS, "else a ahead of b of those that are as good (the rest told as well as can be)");
        for (int how = 0; how < 3; how++) {
            isTree("1.;.0;", how, 1, 1, 2, 0, 1, NONE, 0, 0, NONE);
            isTree("1.;.0;cost 1 2;", how, 1, 1, 2, 0, 1, NONE, 0, 0, NONE);
            isTree("1.;.0;cost 2 1;", how, how == 1 ? 1 : 2, 1, 2, 0, 1, NONE, 0, 0, NONE);
        }

        DOC.says(TERMS, "the SET with the least ROW (COLUMN) of the AREA in it, of these the least number "
                + "as bits");
        for (int how = 0; how < 3; how++) {
            isTree("0;.;1;", how, 1, 1, 2, 0, 0, NONE, 0, 1, NONE);
            isTree("0.1;", how, 2, 1, 2, 0, 0, NONE, 0, 1, NONE);
            isTree("0;0;1;1;", how, 1, 3, 2, 0, 0, NONE, 0, 1, NONE);
            isTree("0;1;1;0;", how, 1, 9, 2, 0, 0, NONE, 0, 1, NONE);
            isTree("100000;", how, 2, 1, 2, 0, 1, NONE, 0, 0, NONE);
            isTree("000001;", how, 2, 31, 2, 0, 0, NONE, 0, 1, NONE);
        }

        DOC.says(TERMS, "first T and second T likewise for their AREAS. (A SET has some, not all of the "
                + "AREA's.)");
        for (int how = 0; how < 3; how++) {
            isTree("0;1;2;", how, 1, 1, 2, 0, 0, NONE, 1, 2, 4, 0, 1, NONE, 0, 2, NONE);
            isTree("012;", how, 2, 1, 2, 0, 0, NONE, 2, 2, 4, 0, 1, NONE, 0, 2, NONE);
            isTree("11;11;10;", how, 1, 3, 2, 0, 1, NONE, 2, 1, 4, 0, 1, NONE, 0, 0, NONE);
        }

        deepest();

        DOC.says(21, "Of the BEST TREE by how (0, 1, 2) how many NODES (k NONE)");
        TalkTables all = Check.of(ALL_UNLIKE);
        for (int how = 0; how < 3; how++) {
            DOC.due("the most by " + how, all.node(how, NONE, 0), 71);
            DOC.due("the last by " + how, all.node(how, 70, 0), 0);
            DOC.due("its value by " + how, all.node(how, 70, 1), all.cell(5, 5));
            DOC.due("none behind it by " + how, all.node(how, 71, 0), NONE);
        }

        DOC.says(21, "2: the number of its second T (NONE: a leaf). NONE if there is none such, for others.");
        TalkTables x = Check.of("0;1;2;");
        for (int how = 0; how < 3; how++) {
            for (int k : new int[] {-2, 5, 6, 70, 71, LEAST, MOST}) {
                DOC.due("by " + how + " node " + k, x.node(how, k, 0), NONE);
            }
            for (int what : new int[] {-2, -1, 3, 4, LEAST, MOST}) {
                DOC.due("by " + how + " what " + what, x.node(how, 0, what), NONE);
            }
            DOC.due("a leaf's second by " + how, x.node(how, 4, 2), NONE);
        }
        for (int how : new int[] {-2, -1, 3, 4, LEAST, MOST}) {
            DOC.due("by " + how, x.node(how, 0, 0), NONE);
            DOC.due("how many by " + how, x.node(how, NONE, 0), NONE);
        }
    }

    /** The last column, then the last row, and so on, each of one value: by leaves no other SET will do. */
    private static void deepest() {
        TalkTables x = Check.of("086420;986420;776420;555420;333320;111110;");
        DOC.due("leaves of the deepest", x.best(1), 11);
        DOC.due("its nodes", x.node(1, NONE, 0), 21);
        for (int k = 0; k < 10; k++) {
            DOC.due("its node " + k, x.node(1, k, 0), k % 2 == 0 ? 2 : 1);
            DOC.due("its set " + k, x.node(1, k, 1), (1 << (5 - k / 2)) - 1);
            DOC.due("its second part " + k, x.node(1, k, 2), 20 - k);
            DOC.due("its leaf " + (20 - k), x.node(1, 20 - k, 1), k);
        }
        DOC.due("its deepest leaf", x.node(1, 10, 1), 0);
    }

    private static void wrong() {
        DOC.says(TERMS, "WRONG by k: the fewest CELLS that are not FREE that a TREE tells wrong whose COST "
                + "is k at most at each CELL.");
        TalkTables b = Check.of("012345;cost 9 8;");
        TalkTables a = Check.of("0;1;2;3;4;5;cost 9 8;");
        for (int k = 20; k >= 0; k--) {
            DOC.due("bits of 8, by " + k, b.wrong(k), k < 8 ? 5 : k < 16 ? 4 : 2);
            DOC.due("bits of 9, by " + k, a.wrong(k), k < 9 ? 5 : k < 18 ? 4 : 2);
        }
        TalkTables free = Check.of("0.1...;......;cost 1 3;");
        int[] fewest = {1, 1, 1, 0};
        for (int k = 0; k < 4; k++) {
            DOC.due("free ones are not wrong, by " + k, free.wrong(k), fewest[k]);
        }
        DOC.due("all unlike, by 0", Check.of(ALL_UNLIKE).wrong(0), 30);
        DOC.due("all unlike, by 6", Check.of(ALL_UNLIKE).wrong(6), 0);
        DOC.due("the most that can be", Check.of("012345;678901;234567;890123;456789;012345;").wrong(0), 32);
        DOC.due("one of 36", Check.of(Sentences.filled(5, 6, '0') + "000001;cost 9 9;").wrong(8), 1);

        DOC.says(22, "WRONG by k (0 .. 20); NONE for another k.");
        TalkTables fresh = new TalkTables();
        DOC.due("of a new object, by 0", fresh.wrong(0), 0);
        DOC.due("of a new object, by 20", fresh.wrong(20), 0);
        DOC.due("by 20", b.wrong(20), 2);
        for (int k : new int[] {-2, -1, 21, 22, LEAST, MOST}) {
            DOC.due("by " + k, b.wrong(k), NONE);
            DOC.due("of a new object, by " + k, fresh.wrong(k), NONE);
        }
    }

    private static void bound() {
        DOC.says(TERMS, "the least whole number n by which 2 to the n is no less than: 0 the sum of COVERS "
                + "of all VALUES there are, 1 the greatest FOOLING SETS of all VALUES together");
        int[] least = {0, 1, 2, 2, 3, 3};
        for (int many = 1; many <= 6; many++) {
            TalkTables x = Check.of("012345".substring(0, many) + ";");
            DOC.due("covers " + many, x.bound(0), least[many - 1]);
            DOC.due("fooling sets " + many, x.bound(1), least[many - 1]);
        }
        TalkTables eight = Check.of("0123;4567;");
        DOC.due("covers 8", eight.bound(0), 3);
        DOC.due("fooling sets 8", eight.bound(1), 3);
        TalkTables ten = Check.of("01234;56789;");
        DOC.due("covers 10", ten.bound(0), 4);
        DOC.due("fooling sets 10", ten.bound(1), 4);
        TalkTables free = Check.of("0.;.0;");
        DOC.due("covers 1, free ones have none", free.bound(0), 0);
        DOC.due("fooling sets 1, free ones have none", free.bound(1), 0);
        TalkTables all = Check.of(ALL_UNLIKE);
        DOC.due("covers 36", all.bound(0), 6);
        DOC.due("fooling sets 36", all.bound(1), 6);

        DOC.says(TERMS, "2 RANK less 1 of the numbers (0 at least) and 1.");
        for (int side = 1; side <= 6; side++) {
            DOC.due("rank " + side, Check.of(Sentences.equality(side)).bound(2), least[side - 1]);
        }
        DOC.due("rank 0", Check.of("00;00;").bound(2), 0);
        DOC.due("of the numbers, not modulo", Check.of("20;03;").bound(2), 1);

        DOC.says(TERMS, "BOUNDS from below for BEST 0, where both costs are 1");
        for (String text : new String[] {".;", "0;", "01;", "10;01;", "1.;01;", Sentences.equality(6),
            ALL_UNLIKE, Sentences.filled(6, 6, '.'), "20;03;"}) {
            TalkTables x = Check.of(text);
            TalkTables dear = Check.of(text + "cost 9 8;");
            for (int what = 0; what < 3; what++) {
                DOC.due(text + " bound " + what + " is from below", x.bound(what) <= x.best(0), true);
                DOC.due(text + " bound " + what + " by other costs", dear.bound(what), x.bound(what));
            }
        }

        DOC.says(23, "BOUNDS what 0, 1, 2; NONE for others.");
        for (int what = 0; what < 3; what++) {
            DOC.due("all free, bound " + what, new TalkTables().bound(what), 0);
        }
        for (int what : new int[] {-2, -1, 3, 4, LEAST, MOST}) {
            DOC.due("bound " + what, ten.bound(what), NONE);
            DOC.due("all free, bound " + what, new TalkTables().bound(what), NONE);
        }
    }

    // ---- trees told

    private static final String THREE = "00;00;00;tree c leaf 7;tree d a 1 leaf 1 leaf 2;";

    private static void noSuch(TalkTables x, int tree, int row, int column) {
        String at = tree + " " + row + " " + column;
        DOC.due("answer " + at, x.answer(tree, row, column), NONE);
        DOC.due("cost " + at, x.cost(tree, row, column), NONE);
        DOC.due("leaf " + at, x.leaf(tree, row, column), NONE);
        DOC.due("bits " + at, x.bit(tree, row, column, NONE), NONE);
        DOC.due("bit " + at, x.bit(tree, row, column, 0), NONE);
    }

    private static void noTree(TalkTables x, int tree) {
        noSuch(x, tree, 0, 0);
        for (int what = 0; what < 7; what++) {
            DOC.due("tree " + tree + " what " + what, x.tree(tree, what), NONE);
        }
        for (int what = 0; what < 5; what++) {
            DOC.due("told " + tree + " what " + what, x.told(tree, 0, what), NONE);
        }
        for (int what = 0; what < 2; what++) {
            DOC.due("graft " + tree + " what " + what, x.graft(tree, 0, what), NONE);
        }
        DOC.due("apart " + tree, x.apart(tree, 0), NONE);
        DOC.due("apart the other " + tree, x.apart(0, tree), NONE);
        DOC.due("apart both " + tree, x.apart(tree, tree), NONE);
    }

    private static void noneSuch() {
        DOC.says(TERMS, "---- trees told (NONE: there is none such, a CELL that there is not)");
        TalkTables x = Check.of(THREE);
        for (int tree : new int[] {-2, -1, 2, 3, 4, 5, LEAST, MOST}) {
            noTree(x, tree);
        }
        noTree(new TalkTables(), 0);
        for (int tree = 0; tree < 2; tree++) {
            for (int n : new int[] {-2, -1, 3, 4, 5, 6, 64, LEAST, MOST}) {
                noSuch(x, tree, n, 0);
                noSuch(x, tree, 0, n);
            }
            noSuch(x, tree, 0, 2);
            noSuch(x, tree, 2, 2);
        }
        TalkTables fewer = Check.of(THREE);
        Check.text(fewer, "0;tree c leaf 0;");
        noTree(fewer, 1);
    }

    /** Of two rows the first goes all the way down, the second no further than the first bit. */
    private static final String DEEPEST =
            "0;0;cost 9 1;tree t " + Check.chain(8) + Check.leaves(8) + "leaf 5;";

    private static void cells() {
        TalkTables x = Check.of(THREE);
        TalkTables deep = Check.of(DEEPEST);
        DOC.says(24, "What a TREE tells at a CELL.");
        DOC.due("a leaf alone", x.answer(0, 2, 1), 7);
        DOC.due("in the set", x.answer(1, 1, 0), 1);
        DOC.due("not in it", x.answer(1, 2, 1), 2);
        DOC.due("deep down", deep.answer(0, 0, 0), 0);
        DOC.due("near the top", deep.answer(0, 1, 0), 5);

        DOC.says(25, "Its COST there.");
        DOC.due("a leaf alone", x.cost(0, 2, 1), 0);
        DOC.due("one bit", x.cost(1, 2, 1), 1);
        DOC.due("the most bits", deep.cost(0, 0, 0), 72);
        DOC.due("near the top", deep.cost(0, 1, 0), 9);

        DOC.says(26, "The NODE of the leaf that is come to there.");
        DOC.due("a leaf alone", x.leaf(0, 2, 1), 0);
        DOC.due("the first part", x.leaf(1, 1, 0), 1);
        DOC.due("the second part", x.leaf(1, 0, 0), 2);
        DOC.due("deep down", deep.leaf(0, 0, 0), 8);
        DOC.due("the last", deep.leaf(0, 1, 0), 16);

        DOC.says(27, "How many bits are said there (i NONE); the i-th (0 ..): 1 in the SET, 0 not.");
        DOC.due("a leaf alone", x.bit(0, 2, 1, NONE), 0);
        DOC.due("one", x.bit(1, 2, 1, NONE), 1);
        DOC.due("in the set", x.bit(1, 1, 1, 0), 1);
        DOC.due("not in it", x.bit(1, 2, 1, 0), 0);
        DOC.due("the most", deep.bit(0, 0, 0, NONE), 8);
        DOC.due("the first of them", deep.bit(0, 0, 0, 0), 1);
        DOC.due("the last of them", deep.bit(0, 0, 0, 7), 1);
        DOC.due("near the top", deep.bit(0, 1, 0, 0), 0);
        TalkTables mixed = Check.of("00;00;tree t a 0 b 1 a 01 a 1 leaf 1 leaf 2 leaf 3 leaf 4 leaf 5;");
        int[] bits = {1, 1, 1, 0};
        DOC.due("four", mixed.bit(0, 0, 1, NONE), 4);
        for (int i = 0; i < 4; i++) {
            DOC.due("bit " + i + " of four", mixed.bit(0, 0, 1, i), bits[i]);
        }
        DOC.due("bit 1 of two", mixed.bit(0, 0, 0, 1), 0);

        DOC.says(27, "NONE, too, if there is none such.");
        DOC.due("of a leaf alone", x.bit(0, 2, 1, 0), NONE);
        DOC.due("a second", x.bit(1, 2, 1, 1), NONE);
        for (int i : new int[] {8, 9, -2, LEAST, MOST}) {
            DOC.due("bit " + i, deep.bit(0, 0, 0, i), NONE);
        }
        DOC.due("near the top", deep.bit(0, 1, 0, 1), NONE);
    }

    private static void isTold(String text, int... want) {
        TalkTables x = Check.of(text);
        for (int what = 0; what < want.length; what++) {
            DOC.due(text + " what " + what, x.tree(0, what), want[what]);
        }
    }

    private static void tree() {
        DOC.says(28, "Of a TREE what 0: NODES, 1: leaves, 2: the worst COST");
        isTold("5;tree t leaf 5;", 1, 1, 0, 0, 0, 0, 0);
        isTold("5;tree t " + Check.bushy(15) + ";", 31, 16, 4);
        isTold(DEEPEST, 17, 9, 72);
        isTold("1.;tree t b 0 leaf 1 b 1 leaf 2 leaf 3;", 5, 3, 2);
        isTold("1;tree t b 0 leaf 1 b 0 leaf 2 leaf 3;", 5, 3, 1);

        DOC.says(28, "3: the sum of COSTS of CELLS that are not FREE, 4: CELLS that are not FREE and told "
                + "wrong");
        isTold("..;cost 9 9;tree t b 0 leaf 1 leaf 2;", 3, 2, 9, 0, 0);
        isTold("1.;cost 9 9;tree t b 0 leaf 1 leaf 2;", 3, 2, 9, 9, 0);
        isTold("2.;cost 9 9;tree t b 0 leaf 1 leaf 2;", 3, 2, 9, 9, 1);
        isTold(Sentences.filled(6, 6, '1') + "cost 9 9;tree t b 0 leaf 0 leaf 0;", 3, 2, 9, 324, 36);

        DOC.says(28, "5: IDLE NODES, 6: the most TURNS on a way to a CELL.");
        isTold("12;tree t b 0 leaf 1 leaf 2;", 3, 2, 1, 2, 0, 0, 0);
        isTold("5;tree t " + Check.bushy(15) + ";", 31, 16, 4, 4, 1, 26, 0);
        isTold("12;tree t a 0 leaf 1 b 0 a 0 leaf 1 leaf 2 leaf 3;", 7, 4, 1, 2, 1, 5, 0);
        String changing = "0;tree t a0b0a0b0a0b0a0b0" + Check.leaves(9) + ";";
        isTold(changing, 17, 9, 8, 8, 0, 8, 7);

        DOC.says(28, "NONE, too, for another what.");
        TalkTables x = Check.of(changing);
        for (int what : new int[] {-2, -1, 7, 8, LEAST, MOST}) {
            DOC.due("what " + what, x.tree(0, what), NONE);
        }
    }

    private static void told() {
        DOC.says(TERMS, "the CELLS by which it is come to (an AREA, or none). IDLE: NODES that no CELL "
                + "comes to.");
        TalkTables idle = Check.of("00;tree t a 0 b 0 leaf 1 leaf 2 b 1 leaf 3 leaf 4;");
        int[] columns = {3, 3, 1, 2, 0, 0, 0};
        for (int k = 0; k < 7; k++) {
            DOC.due("rows of node " + k, idle.told(0, k, 3), columns[k] == 0 ? 0 : 1);
            DOC.due("columns of node " + k, idle.told(0, k, 4), columns[k]);
        }
        DOC.due("idle nodes", idle.tree(0, 5), 3);
        DOC.due("none is idle", Check.of("00;tree t b 0 leaf 1 leaf 2;").tree(0, 5), 0);
        DOC.due("a leaf alone is not", Check.of(".;tree t leaf 1;").tree(0, 5), 0);

        DOC.says(29, "2: the number of its second T (NONE: a leaf), 3, 4: ROWS, COLUMNS (bits) by which it "
                + "is come to (0, if it is IDLE).");
        TalkTables x = Check.of("12;34;tree t a 0 a 0 leaf 1 b 1 leaf 5 leaf 6 b 01 leaf 7 leaf 8;");
        int[][] nodes = {{1, 1, 6, 3, 3}, {1, 1, 3, 1, 3}, {0, 1, NONE, 1, 3}, {2, 2, 5, 0, 0},
            {0, 5, NONE, 0, 0}, {0, 6, NONE, 0, 0}, {2, 3, 8, 2, 3}, {0, 7, NONE, 2, 3},
            {0, 8, NONE, 0, 0}};
        for (int k = 0; k < 9; k++) {
            for (int what = 0; what < 5; what++) {
                DOC.due("node " + k + " what " + what, x.told(0, k, what), nodes[k][what]);
            }
        }
        TalkTables most = Check.of(Sentences.filled(6, 6, '0') + "tree t " + Check.bushy(15) + ";");
        DOC.due("all rows", most.told(0, 0, 3), 63);
        DOC.due("all columns", most.told(0, 0, 4), 63);
        DOC.due("the last of 31", most.told(0, 30, 0), 0);
        DOC.due("its rows", most.told(0, 30, 3), 63);
        DOC.due("its columns", most.told(0, 30, 4), 62);

        DOC.says(29, "NONE, too, for another what.");
        for (int what : new int[] {-2, -1, 5, 6, LEAST, MOST}) {
            DOC.due("what " + what, x.told(0, 0, what), NONE);
            DOC.due("of a leaf, what " + what, x.told(0, 2, what), NONE);
        }
        for (int k : new int[] {-2, -1, 9, 10, 30, 31, 32, LEAST, MOST}) {
            for (int what = 0; what < 5; what++) {
                DOC.due("node " + k + " what " + what, x.told(0, k, what), NONE);
            }
        }
    }

    private static void grafts(String text, int[] cost, int[] wrong) {
        TalkTables x = Check.of(text);
        for (int d = 0; d < 10; d++) {
            DOC.due(text + " cost at " + d, x.graft(0, d, 0), cost[Math.min(d, cost.length - 1)]);
            DOC.due(text + " wrong at " + d, x.graft(0, d, 1), wrong[Math.min(d, wrong.length - 1)]);
        }
    }

    private static void graft() {
        DOC.says(TERMS, "each NODE that is d below its first one (and that CELLS come to), with all below "
                + "it, gives way to the BEST TREE by 0 for the AREA that comes to it (leaves that are less "
                + "far below stay).");
        grafts("12;tree t leaf 3;", new int[] {1, 0}, new int[] {0, 2});
        grafts("12;tree t a 0 leaf 1 b 0 b 0 leaf 1 leaf 2 leaf 3;", new int[] {1, 2, 1},
                new int[] {0, 0, 1});
        grafts("1.;..;tree t a 0 b 0 leaf 2 leaf 3 leaf 4;", new int[] {0, 1, 2, 2},
                new int[] {0, 0, 0, 1});
        grafts(DEEPEST, new int[] {0, 9, 18, 27, 36, 45, 54, 63, 72, 72},
                new int[] {0, 0, 1, 1, 1, 1, 1, 1, 1, 1});
        grafts("1;2;cost 9 1;tree t " + Check.chain(8) + Check.leaves(8) + "leaf 2;",
                new int[] {9, 9, 18, 27, 36, 45, 54, 63, 72, 72},
                new int[] {0, 0, 0, 0, 0, 0, 0, 0, 0, 1});

        grafts("5;6;tree t " + Check.bushy(15) + ";", new int[] {1, 2, 3, 4, 5, 4},
                new int[] {0, 0, 0, 0, 0, 2});

        DOC.says(30, "GRAFT of a TREE at d (0 .. 9) what 0: its worst COST, 1: CELLS that are not FREE and "
                + "told wrong. NONE, too, for another d, what.");
        TalkTables x = Check.of(DEEPEST);
        DOC.due("at 9, 0", x.graft(0, 9, 0), 72);
        DOC.due("at 9, 1", x.graft(0, 9, 1), 1);
        for (int d : new int[] {-2, -1, 10, 11, LEAST, MOST}) {
            DOC.due("at " + d + ", 0", x.graft(0, d, 0), NONE);
            DOC.due("at " + d + ", 1", x.graft(0, d, 1), NONE);
        }
        for (int what : new int[] {-2, -1, 2, 3, LEAST, MOST}) {
            DOC.due("at 0, " + what, x.graft(0, 0, what), NONE);
            DOC.due("at 9, " + what, x.graft(0, 9, what), NONE);
        }
    }

    private static void apart() {
        DOC.says(31, "How many CELLS two TREES tell unlike.");
        String two = "tree c leaf 1;tree d leaf 2;tree e b 5 leaf 2 leaf 1;";
        TalkTables x = Check.of(Sentences.filled(6, 6, '.') + two);
        DOC.due("all, free ones, too", x.apart(0, 1), 36);
        DOC.due("a column", x.apart(0, 2), 6);
        DOC.due("all but a column", x.apart(2, 1), 30);
        for (int tree = 0; tree < 3; tree++) {
            DOC.due("itself", x.apart(tree, tree), 0);
        }
        DOC.due("like answers of unlike trees",
                Check.of("12;tree c leaf 1;tree d b 0 leaf 1 leaf 1;").apart(0, 1), 0);
        DOC.due("one that there is not", x.apart(0, 3), NONE);
        DOC.due("nor is that one", x.apart(3, 3), NONE);
    }

    public static void main(String[] args) {
        best();
        byTurns();
        bestTrees();
        wrong();
        bound();
        noneSuch();
        cells();
        tree();
        told();
        graft();
        apart();
        DOC.finish("boundaries of talk", 19, 31);
    }
}
