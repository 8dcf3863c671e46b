/** The text's terms and promises 1 to 7: each sentence of the document that names a boundary case. */
public final class BoundaryTextTest {
    private static final Sentences DOC = new Sentences();
    private static final int TERMS = Sentences.TERMS;
    private static final int NONE = TalkTables.NONE;
    private static final int LEAST = Integer.MIN_VALUE;
    private static final int MOST = Integer.MAX_VALUE;
    private static final int[] NO_WHAT = {-2, -1, LEAST, MOST};

    private static void good(String text) {
        DOC.fault(text, 0, NONE);
    }

    // ---- how much a text may have

    private static void sizes() {
        DOC.says(TERMS, "A TEXT has at most 500 bytes");
        good("5;" + " ".repeat(498));
        good("\n".repeat(498) + "5;");
        DOC.fault("5;" + " ".repeat(497) + "!", 1, 499);
        DOC.fault("5;" + " ".repeat(494) + "tree", 2, 500);
        DOC.fault("0".repeat(500), 1, 0);
        DOC.fault("0;" + "t".repeat(498), 1, 2);

        DOC.says(TERMS, "(as many in each: 1 .. 6 COLUMNS; 1 .. 6 ROWS)");
        for (int r = 1; r <= 6; r++) {
            for (int c = 1; c <= 6; c++) {
                TalkTables x = Check.of(Sentences.filled(r, c, '7'));
                DOC.due("rows of " + r, x.about(0), r);
                DOC.due("columns of " + c, x.about(1), c);
                DOC.due("the last cell", x.cell(r - 1, c - 1), 7);
                DOC.due("a row behind", x.cell(r, c - 1), NONE);
                DOC.due("a column behind", x.cell(r - 1, c), NONE);
            }
        }
        DOC.fault("", 2, 0);
        DOC.fault(";", 2, 0);
        DOC.fault("0;;", 2, 2);
        DOC.fault("0123456;", 1, 0);
        DOC.fault(Sentences.filled(7, 6, '0'), 5, 42);
        DOC.fault("000;00;", 4, 4);
        DOC.fault("000;0000;", 4, 4);
        DOC.fault("0;0;0;0;0;00;", 4, 10);

        DOC.says(TERMS, ". is FREE (nothing is asked there)");
        TalkTables free = Check.of("......;cost 9 9;tree t leaf 9;");
        for (int c = 0; c < 6; c++) {
            DOC.due("cell " + c, free.cell(0, c), 10);
        }
        DOC.due("free cells", free.about(8), 6);
        DOC.due("none is told wrong", free.tree(0, 4), 0);
        DOC.due("no bits are due", free.best(0), 0);
    }

    private static void costs() {
        DOC.says(TERMS, "(1 .. 9 each; once; 1, 1 without)");
        for (int a = 1; a <= 9; a++) {
            for (int b = 1; b <= 9; b++) {
                TalkTables x = Check.of("0;cost " + a + " " + b + ";");
                DOC.due("cost of A", x.about(5), a);
                DOC.due("cost of B", x.about(6), b);
            }
        }
        DOC.fault("0;cost 0 1;", 4, 7);
        DOC.fault("0;cost 1 0;", 4, 9);
        DOC.fault("0;cost . 1;", 4, 7);
        DOC.fault("0;cost 1 .;", 4, 9);
        DOC.fault("0;cost 10 1;", 4, 7);
        DOC.fault("0;cost 1 01;", 4, 9);
        DOC.fault("0;cost 1 1;cost 1 1;", 2, 11);
        DOC.fault("0;cost 1 1;tree t leaf 0;cost 1 1;", 2, 25);
        TalkTables x = Check.of("0;cost 9 8;");
        Check.text(x, "0;");
        DOC.due("without, A", x.about(5), 1);
        DOC.due("without, B", x.about(6), 1);
        Check.text(x, "0;cost 7 6;");
        DOC.due("once in each text", x.about(5) * 10 + x.about(6), 76);
    }

    private static void trees() {
        DOC.says(TERMS, "(4 at most; numbered as told, 0 ..)");
        String four = "0;tree c leaf 9;tree d leaf 8;cost 1 1;tree e leaf 7;tree f leaf 6;";
        TalkTables x = new TalkTables();
        DOC.due("four trees", Check.text(x, four), 4);
        for (int t = 0; t < 4; t++) {
            DOC.due("tree " + t, x.answer(t, 0, 0), 9 - t);
        }
        DOC.due("tree 4", x.answer(4, 0, 0), NONE);
        DOC.due("tree -1", x.answer(-1, 0, 0), NONE);
        DOC.fault(four + "tree g leaf 5;", 5, four.length());

        DOC.says(TERMS, "NODES of a TREE are numbered as they stand, from 0 on.");
        TalkTables y = Check.of("00;00;tree t a 0 b 1 leaf 1 leaf 2 leaf 3;");
        int[][] nodes = {{1, 1, 4}, {2, 2, 3}, {0, 1, NONE}, {0, 2, NONE}, {0, 3, NONE}};
        for (int k = 0; k < 5; k++) {
            for (int what = 0; what < 3; what++) {
                DOC.due("node " + k + " " + what, y.told(0, k, what), nodes[k][what]);
            }
        }
        DOC.due("node 5", y.told(0, 5, 0), NONE);

        DOC.says(TERMS, "the first T goes on, if so, else the second one; b: likewise B by COLUMNS.");
        DOC.due("row 0, column 0", y.leaf(0, 0, 0), 3);
        DOC.due("row 0, column 1", y.leaf(0, 0, 1), 2);
        DOC.due("row 1, column 1", y.leaf(0, 1, 1), 4);
    }

    // ---- runs, words, blanks

    private static String rising(int many) {
        return "012345".substring(0, many);
    }

    private static void setsAndNumbers() {
        DOC.says(TERMS, "numbers of ROWS, COLUMNS from 0 on, each above the one before it.");
        for (int n = 1; n <= 6; n++) {
            String tall = "0;".repeat(n) + "tree t a ";
            String wide = "0".repeat(n) + ";tree t b ";
            String rest = " leaf 0 leaf 1;";
            good(tall + (n - 1) + rest);
            good(wide + (n - 1) + rest);
            good(tall + rising(n) + rest);
            good(wide + rising(n) + rest);
            DOC.fault(tall + n + rest, 4, tall.length());
            DOC.fault(wide + n + rest, 4, wide.length());
            DOC.fault(tall + "0" + n + rest, 4, tall.length());
            DOC.fault(wide + "0" + n + rest, 4, wide.length());
        }
        String six = "000000;tree t b ";
        for (String set : new String[] {"00", "10", "554", "012344", "123450", ".", "0.", ".0", "01234."}) {
            DOC.fault(six + set + " leaf 0 leaf 1;", 4, six.length());
        }
        DOC.fault(six + "0123455 leaf 0 leaf 1;", 1, six.length());
        DOC.fault(six + "leaf 0 leaf 1;", 2, six.length());
        DOC.due("bits of a set", Check.of(six + "05 leaf 0 leaf 1;").told(0, 0, 1), 33);

        DOC.says(TERMS, "N: a run of one sign, 0 .. 9.");
        for (int n = 0; n <= 9; n++) {
            DOC.due("leaf " + n, Check.of("0;tree t leaf " + n + ";").answer(0, 0, 0), n);
        }
        for (String n : new String[] {".", "00", "10", "1.", "123456"}) {
            DOC.fault("0;tree t leaf " + n + ";", 4, 14);
        }
        DOC.fault("0;tree t leaf a;", 2, 14);
        DOC.fault("0;tree t leaf ;", 2, 14);
    }

    private static void tokens() {
        DOC.says(TERMS, "words (a .. z, 6 at most)");
        good("0;tree azazaz leaf 0;");
        DOC.due("the last letter", Check.of("0;tree zzzzzz leaf 3;").answer(0, 0, 0), 3);
        DOC.fault("0;tree azazaza leaf 0;", 1, 7);
        DOC.fault("0;tree ` leaf 0;", 1, 7);
        DOC.fault("0;tree { leaf 0;", 1, 7);
        DOC.fault("0;tree T leaf 0;", 1, 7);
        DOC.fault("0;tree tT leaf 0;", 1, 8);

        DOC.says(TERMS, "runs (0 .. 9 and ., 6 at most)");
        good("0.9.09;");
        DOC.fault("0.9.09.;", 1, 0);
        DOC.fault("/;", 1, 0);
        DOC.fault("0:;", 1, 1);
        DOC.fault("0,0;", 1, 1);
        DOC.fault("-1;", 1, 0);

        DOC.says(TERMS, "Blanks (32, 10) part them or not");
        good(" \n0 \n; \ncost\n1 1\n;\ntree\nt\na\n0\nleaf\n0\nleaf\n1\n;\n");
        good("0;cost1 1;tree t a0leaf0leaf1;");
        DOC.fault("0;cost11;", 4, 6);
        DOC.fault("0 0;", 2, 2);
        DOC.fault("0\n0;", 2, 2);
        DOC.fault("0;tr ee t leaf 0;", 2, 2);
        for (int sign = 0; sign < 256; sign++) {
            String text = "0;" + (char) sign;
            if (sign == 32 || sign == 10) {
                good(text);
            } else if ((sign >= '0' && sign <= '9') || sign == '.') {
                DOC.fault(text, 2, 3);
            } else {
                DOC.fault(text, (sign >= 'a' && sign <= 'z') || sign == ';' ? 2 : 1, 2);
            }
        }

        DOC.says(TERMS, "each is as long as can be (a longer word, a longer run: 1 at its first byte)");
        DOC.fault("0;treet leaf 0;", 2, 2);
        DOC.fault("0;tree tleaf 0;", 2, 13);
        DOC.fault("0;tree t leafleaf 0;", 1, 9);
        DOC.fault(" 0000000;", 1, 1);
        DOC.fault("000000;0000000;", 1, 7);
        DOC.fault("0;tree t a 0123450 leaf 0 leaf 0;", 1, 11);
        DOC.fault("0;tree t leaf 0000000;", 1, 14);
        DOC.fault("0;costcost", 1, 2);

        DOC.says(TERMS, "NAMES: words but cost, tree, leaf, a, b.");
        for (String name : new String[] {"cost", "tree", "leaf", "a", "b"}) {
            DOC.fault("0;tree " + name + " leaf 0;", 2, 7);
        }
        for (String name : new String[] {"c", "z", "aa", "ab", "ba", "bb", "cos", "costs", "tre", "trees",
            "lea", "leafs", "free", "row"}) {
            good("0;tree " + name + " leaf 0;");
        }
        DOC.fault("0;tree 0 leaf 0;", 2, 7);
        DOC.fault("0;tree ;", 2, 7);
    }

    // ---- faults

    private static void places() {
        DOC.says(TERMS, "FAULTS, the first by its place (bytes from 0; the end: the text's length)");
        DOC.fault("!", 1, 0);
        DOC.fault("0!;", 1, 1);
        DOC.fault("", 2, 0);
        DOC.fault(" \n ", 2, 3);
        DOC.fault("0", 2, 1);
        DOC.fault("0 \n ", 2, 4);
        DOC.fault("0;tree t leaf 0", 2, 15);
        DOC.fault("0;tree t leaf 0  ", 2, 17);
        DOC.fault("0;tree t a 1 leaf 00 !", 4, 11);
        DOC.fault("0;tree t leaf 0;tree t leaf .;", 3, 21);
        DOC.fault("0;cost 0 0;cost 1 1;!", 4, 7);
        DOC.fault("00;0;!", 4, 3);

        DOC.says(TERMS, "at one place the least");
        DOC.fault("0;0;0;0;0;0;00;", 4, 12);
        DOC.fault("0;0;0;0;0;0;0123456;", 1, 12);
        DOC.fault("0;cost 1 1;00;", 2, 11);
        DOC.fault("0;0;0;0;0;0;cost 1 1;0;", 2, 21);
        DOC.fault("0;cost 1 1;0123456;", 1, 11);
        DOC.fault("0;tree t" + " " + Check.chain(9) + "tree", 2, 27);
        DOC.fault("0;tree t" + " " + Check.chain(9) + "leaves 0", 2, 27);
        DOC.fault("0;tree t" + " " + Check.chain(9) + "leafing 0", 1, 27);
        String last = "0;tree t " + Check.bushy(15);
        String beyond = last.substring(0, last.length() - 5) + "b0";
        DOC.fault(beyond + "cost", 2, beyond.length());
        DOC.fault(beyond + "0", 4, beyond.length() - 1);
        DOC.fault(beyond + " 0", 2, beyond.length() + 1);
        DOC.fault(beyond + "!", 1, beyond.length());
        DOC.fault(beyond + "a0", 5, beyond.length());
        String four = "0;tree c leaf 0;tree d leaf 0;tree e leaf 0;tree f leaf 0;";
        DOC.fault(four + "trees", 2, four.length());
        DOC.fault(four + "treetree", 1, four.length());
        DOC.fault(four + "tree c leaf 0;", 5, four.length());
    }

    private static void kinds() {
        DOC.says(TERMS, "1 none such;");
        DOC.fault("?", 1, 0);
        DOC.fault("0?", 1, 1);
        DOC.fault("0;?", 1, 2);
        DOC.fault("0;cost ?", 1, 7);
        DOC.fault("0;cost 1?", 1, 8);
        DOC.fault("0;tree ?", 1, 7);
        DOC.fault("0;tree t ?", 1, 9);
        DOC.fault("0;tree t a ?", 1, 11);
        DOC.fault("0;tree t a 0 ?", 1, 13);
        DOC.fault("0;tree t leaf ?", 1, 14);
        DOC.fault("0;tree t leaf 0 ?", 1, 16);
        DOC.fault("0;tree t leaf 0; ?", 1, 17);

        DOC.says(TERMS, "2 one that can't stand there (no ROW; a ROW behind a line; a second cost, at it)");
        DOC.fault("cost 1 1;", 2, 0);
        DOC.fault("tree t leaf 0;", 2, 0);
        DOC.fault(" ;", 2, 1);
        DOC.fault("0;cost 1 1;0;", 2, 11);
        DOC.fault("0;tree t leaf 0;0;", 2, 16);
        DOC.fault("0;cost 1 1;cost", 2, 11);
        DOC.fault("0;cost 1;", 2, 8);
        DOC.fault("0;cost 1 1 1;", 2, 11);
        DOC.fault("0;tree;", 2, 6);
        DOC.fault("0;tree t;", 2, 8);
        DOC.fault("0;tree t a;", 2, 10);
        DOC.fault("0;tree t a 0;", 2, 12);
        DOC.fault("0;tree t a 0 leaf 0;", 2, 19);
        DOC.fault("0;tree t leaf;", 2, 13);
        DOC.fault("0;tree t leaf 0 leaf 0;", 2, 16);
        DOC.fault("0;tree t 0;", 2, 9);
        DOC.fault("0;leaf 0;", 2, 2);
        DOC.fault("0;a 0 leaf 0 leaf 0;", 2, 2);

        DOC.says(TERMS, "3 a NAME told already");
        String told = "0;tree c leaf 0;tree d leaf 0;tree e leaf 0;";
        for (String name : new String[] {"c", "d", "e"}) {
            DOC.fault(told + "tree " + name + " leaf 0;", 3, told.length() + 5);
        }
        good(told + "tree f leaf 0;");
        good("0;tree cc leaf 0;tree c leaf 0;tree ccc leaf 0;tree cd leaf 0;");
        TalkTables x = Check.of(told);
        DOC.due("a text that has it anew", Check.text(x, "0;tree c leaf 0;"), 1);
        DOC.due("a text with a fault behind a name", Check.text(x, "0;tree g leaf 0;!"), NONE);
        DOC.due("has not told that name", Check.text(x, "0;tree g leaf 0;"), 1);

        DOC.says(TERMS, "4 a run that can't be (a ROW of another length; N, a SET not as told, at it)");
        DOC.fault("00; 0;", 4, 4);
        DOC.fault("0;00;", 4, 2);
        DOC.fault("0;cost  00 1;", 4, 8);
        DOC.fault("0;tree t leaf  00;", 4, 15);
        DOC.fault("0;tree t a  1 leaf 0 leaf 0;", 4, 12);
        DOC.fault("0;tree t a 0 leaf 0 b 1", 4, 22);
    }

    private static void tooMany() {
        DOC.says(TERMS, "5 one too many (a ROW, a tree, at it;");
        good("0;0;0;0;0;0;");
        DOC.fault("0;0;0;0;0;0;0", 5, 12);
        DOC.fault("0;0;0;0;0;0; 1!", 5, 13);
        String four = "0;tree c leaf 0;tree d leaf 0;tree e leaf 0;tree f leaf 0;";
        good(four);
        good(four + "cost 1 1;");
        DOC.fault(four + "tree", 5, four.length());
        DOC.fault(four + " \ntree cost", 5, four.length() + 2);

        DOC.says(TERMS, "the 32nd NODE of a TREE, one within 9 others, at it)");
        String most = "tree t " + Check.bushy(15) + ";";
        DOC.due("31 nodes", Check.of("0;" + most).tree(0, 0), 31);
        TalkTables two = Check.of("0;" + most + "tree u " + Check.bushy(15) + ";");
        DOC.due("each tree has its own 31", two.tree(1, 0), 31);
        String many = "0;tree t " + Check.bushy(16);
        DOC.fault(many + ";", 5, many.lastIndexOf("leaf", many.length() - 6));
        String last = "0;tree t " + Check.bushy(15);
        String beyond = last.substring(0, last.length() - 5) + "b0";
        DOC.fault(beyond + "leaf0leaf0;", 5, beyond.length());
        DOC.fault(beyond + "b0leaf0leaf0leaf0;", 5, beyond.length());
        TalkTables deep = Check.of("0;tree t " + Check.chain(8) + Check.leaves(9) + ";");
        DOC.due("one within 8 others", deep.bit(0, 0, 0, NONE), 8);
        DOC.fault("0;tree t " + Check.chain(9) + Check.leaves(10) + ";", 5, 27);
        DOC.fault("0;tree t " + Check.chain(9) + "b0" + Check.leaves(11) + ";", 5, 27);
        String second = "leaf0 b0 ";
        good("0;tree t b0 " + second.repeat(7) + "leaf0leaf0;");
        DOC.fault("0;tree t b0 " + second.repeat(8) + "leaf0leaf0;", 5, 12 + 72);
    }

    // ---- promises 1 to 7

    private static void newObject() {
        DOC.says(1, "One ROW, one COLUMN, its CELL is FREE; no TREES.");
        TalkTables x = new TalkTables();
        DOC.due("rows", x.about(0), 1);
        DOC.due("columns", x.about(1), 1);
        DOC.due("its cell", x.cell(0, 0), 10);
        DOC.due("no second row", x.cell(1, 0), NONE);
        DOC.due("no second column", x.cell(0, 1), NONE);
        DOC.due("free cells", x.about(8), 1);
        DOC.due("trees", x.about(2), 0);
        DOC.due("no tree 0", x.tree(0, 0), NONE);
        DOC.due("no answer", x.answer(0, 0, 0), NONE);
        DOC.due("cost of A", x.about(5), 1);
        DOC.due("cost of B", x.about(6), 1);
        DOC.due("no acts", x.about(3), 0);
        DOC.due("no bytes", x.about(4), 0);
        DOC.due("the area of all", x.area(1, 1, 1), 10);
        DOC.due("best", x.best(0) + 10 * x.best(1) + 100 * x.best(2), 10);
        DOC.due("a turn", x.turn(), 1);

        DOC.says(TERMS, "An object is used for at most 512 calls after it has been made");
        TalkTables y = new TalkTables();
        for (int i = 0; i < 512; i++) {
            DOC.due("call " + (i + 1), y.put(0, 0, i % 10), i == 0 ? 10 : (i - 1) % 10);
        }

        DOC.says(TERMS, "NONE = -1: There is none.");
        DOC.due("NONE", TalkTables.NONE, -1);
    }

    private static void feed() {
        DOC.says(2, "Twenty bytes come behind those on the TAPE, of each number the highest first");
        TalkTables x = new TalkTables();
        DOC.due("the first twenty", x.feed(0x30313233, 0x343b3536, 0x37383939, 0x3b2e2e2e, 0x2e2e3b20), 20);
        DOC.due("cut off", x.end(1), 1);
        DOC.due("twenty behind one", x.feed(0x31323334, 0x3b353637, 0x38393b20, 0x20202020, 0x20202020), 21);
        DOC.due("read", x.text(), 0);
        for (int i = 0; i < 10; i++) {
            DOC.due("cell " + i, x.cell(i / 5, i % 5), i);
        }
        TalkTables low = new TalkTables();
        low.feed(0xb03b2020, 0x20202020, 0x20202020, 0x20202020, 0x20202020);
        DOC.due("a byte above 127 is no sign of a run", low.text(), NONE);
        DOC.due("none such", low.fault(0), 1);
        DOC.due("at its place", low.fault(1), 0);
        low.feed(0x303b20a0, 0x20202020, 0x20202020, 0x20202020, 0x20202020);
        DOC.due("nor a blank", low.text(), NONE);
        DOC.due("its place", low.fault(1), 3);
        low.feed(0x303b2020, 0x20202020, 0x20202020, 0x20202020, 0x202020bb);
        DOC.due("nor the last of twenty", low.text(), NONE);
        DOC.due("the last place", low.fault(1), 19);

        DOC.says(2, "how many there are; NONE, and nothing comes, if there would be more than 500.");
        TalkTables y = new TalkTables();
        for (int i = 1; i <= 25; i++) {
            DOC.due("feed " + i, y.feed(LEAST, MOST, -1, 0, 1), 20 * i);
        }
        DOC.due("feed 26", y.feed(0, 0, 0, 0, 0), NONE);
        DOC.due("500 bytes stay", y.about(4), 500);
        y.end(480);
        DOC.due("from 480", y.feed(0, 0, 0, 0, 0), 500);
        for (int from = 481; from < 500; from++) {
            TalkTables z = new TalkTables();
            Check.tape(z, "4;" + " ".repeat(from - 2));
            DOC.due("from " + from, z.feed(0, 0, 0, 0, 0), NONE);
            DOC.due("bytes stay " + from, z.about(4), from);
            DOC.due("they are read", z.text(), 0);
            DOC.due("as they were", z.cell(0, 0), 4);
        }
    }

    private static void end() {
        DOC.says(3, "The TAPE has its first n bytes: n");
        TalkTables x = new TalkTables();
        DOC.due("none of none", x.end(0), 0);
        Check.tape(x, "34;56;!");
        DOC.due("all of them", x.end(7), 7);
        DOC.due("the first six", x.end(6), 6);
        DOC.due("bytes", x.about(4), 6);
        DOC.due("the first three", x.end(3), 3);
        DOC.due("read", x.text(), 0);
        DOC.due("rows", x.about(0), 1);
        DOC.due("the last cell", x.cell(0, 1), 4);
        Check.tape(x, "5;");
        DOC.due("none of two", x.end(0), 0);
        DOC.due("an empty text", x.text(), NONE);
        DOC.due("its place", x.fault(1), 0);

        DOC.says(3, "NONE, doing nothing, if it has not so many, or n is below 0.");
        TalkTables y = new TalkTables();
        DOC.due("one of none", y.end(1), NONE);
        y.feed(0, 0, 0, 0, 0);
        for (int n : new int[] {21, 22, 500, 501, MOST, -1, -20, LEAST}) {
            DOC.due("end " + n, y.end(n), NONE);
            DOC.due("bytes stay", y.about(4), 20);
        }
        y.end(5);
        DOC.due("those cut off don't come back", y.end(6), NONE);
        DOC.due("bytes", y.about(4), 5);
    }

    private static final String KEPT = "12;3.;cost 2 3;tree t a 0 leaf 1 leaf 3;";

    private static void stays(TalkTables x) {
        int[] about = {2, 2, 1, 1, 0, 2, 3, 1 << 9 | 1 << 3 | 1 << 2, 1};
        for (int what = 0; what < 9; what++) {
            DOC.due("about " + what, x.about(what), about[what]);
        }
        int[] cells = {9, 2, 3, 10};
        for (int i = 0; i < 4; i++) {
            DOC.due("cell " + i, x.cell(i / 2, i % 2), cells[i]);
        }
        DOC.due("the tree's answer", x.answer(0, 1, 1), 3);
        DOC.due("its cost", x.cost(0, 1, 1), 2);
        DOC.due("its set's rows", x.told(0, 1, 3), 1);
        DOC.due("best", x.best(0), 5);
        DOC.due("the best tree's nodes", x.node(0, NONE, 0), 5);
    }

    private static void text() {
        DOC.says(4, "The TAPE (empty then, also at a FAULT) is the TEXT");
        TalkTables x = Check.of(KEPT);
        DOC.due("bytes left", x.about(4), 0);
        DOC.due("an empty one", x.text(), NONE);
        DOC.due("its fault", x.fault(0), 2);
        Check.text(x, "0;!");
        DOC.due("bytes left at a fault", x.about(4), 0);
        DOC.due("so that another stands alone", Check.text(x, "5;"), 0);
        DOC.due("its cell", x.cell(0, 0), 5);

        DOC.says(4, "(no ACTS are kept)");
        TalkTables y = Check.of(KEPT);
        y.put(0, 0, 9);
        y.turn();
        Check.text(y, KEPT);
        DOC.due("acts", y.about(3), 0);
        DOC.due("undo", y.undo(), false);
        DOC.due("a cell", y.cell(0, 0), 1);

        DOC.says(4, "how many TREES; NONE: a FAULT (all else stays).");
        DOC.due("no trees", Check.text(y, "0;"), 0);
        String text = "0;";
        for (int t = 1; t <= 4; t++) {
            text = text + "tree n" + (char) ('a' + t) + " leaf 0;";
            DOC.due(t + " trees", Check.text(y, text), t);
            DOC.due(t + " trees, about 2", y.about(2), t);
        }
        TalkTables z = Check.of(KEPT);
        z.put(0, 0, 9);
        z.best(0);
        for (String wrong : new String[] {"", "!", "000;000;000;!", "7;cost 9 9;!",
            "7;tree t leaf 9;!", "00;00;tree t b 0 leaf 7 leaf 8;tree u b 1 leaf 0 leaf 0;tree u"}) {
            DOC.due("text '" + wrong + "'", Check.text(z, wrong), NONE);
            stays(z);
        }
        DOC.due("the act can be undone", z.undo(), true);
        DOC.due("as it was", z.cell(0, 0), 1);
    }

    private static void fault() {
        DOC.says(5, "Of the latest text() what 0: its FAULT (0: without; ahead of any, too)");
        TalkTables x = new TalkTables();
        DOC.due("ahead of any", x.fault(0), 0);
        Check.text(x, "0;tree t leaf 0;tree t");
        DOC.due("a fault", x.fault(0), 3);
        Check.tape(x, "0;");
        x.turn();
        DOC.due("still of the latest", x.fault(0), 3);
        x.text();
        DOC.due("without", x.fault(0), 0);

        DOC.says(5, "1: its place (NONE likewise)");
        TalkTables y = new TalkTables();
        DOC.due("ahead of any", y.fault(1), NONE);
        Check.text(y, "!");
        DOC.due("place 0", y.fault(1), 0);
        Check.text(y, "0 ;  !");
        DOC.due("of the latest", y.fault(1), 5);
        Check.text(y, "0;");
        DOC.due("without", y.fault(1), NONE);

        DOC.says(5, "NONE for another what.");
        Check.text(y, "0!");
        for (int what : NO_WHAT) {
            DOC.due("fault " + what, y.fault(what), NONE);
        }
        DOC.due("fault 2", y.fault(2), NONE);
    }

    private static void about() {
        DOC.says(6, "What 0: ROWS, 1: COLUMNS, 2: TREES");
        TalkTables tall = Check.of("0;0;0;0;0;0;tree t leaf 0;");
        DOC.due("rows", tall.about(0), 6);
        DOC.due("columns", tall.about(1), 1);
        DOC.due("trees", tall.about(2), 1);

        DOC.says(6, "3: ACTS that can be undone, 4: bytes on the TAPE");
        TalkTables x = new TalkTables();
        for (int i = 1; i <= 14; i++) {
            x.turn();
            DOC.due("acts " + i, x.about(3), Math.min(i, 12));
        }
        x.undo();
        DOC.due("one undone", x.about(3), 11);
        for (int i = 1; i <= 26; i++) {
            x.feed(0, 0, 0, 0, 0);
            DOC.due("bytes " + i, x.about(4), Math.min(20 * i, 500));
        }

        DOC.says(6, "7: VALUES that stand somewhere (bits), 8: FREE CELLS.");
        TalkTables free = Check.of(Sentences.filled(6, 6, '.'));
        DOC.due("no values", free.about(7), 0);
        DOC.due("36 free", free.about(8), 36);
        TalkTables all = Check.of("01234;56789;");
        DOC.due("all values", all.about(7), 1023);
        DOC.due("none free", all.about(8), 0);
        all.put(0, 0, 10);
        DOC.due("but 0", all.about(7), 1022);
        DOC.due("one free", all.about(8), 1);

        DOC.says(6, "NONE for another what.");
        for (int what : NO_WHAT) {
            DOC.due("about " + what, x.about(what), NONE);
        }
        DOC.due("about 9", x.about(9), NONE);
    }

    private static void cell() {
        DOC.says(7, "VALUE of a CELL; 10: it is FREE; NONE if there is none such.");
        TalkTables x = Check.of("0.9;8.1;");
        int[][] cells = {{0, 10, 9}, {8, 10, 1}};
        for (int r = -1; r <= 6; r++) {
            for (int c = -1; c <= 6; c++) {
                boolean is = r >= 0 && r < 2 && c >= 0 && c < 3;
                DOC.due("cell " + r + " " + c, x.cell(r, c), is ? cells[r][c] : NONE);
            }
        }
        for (int n : new int[] {LEAST, MOST, 1 << 30, 64}) {
            DOC.due("row " + n, x.cell(n, 0), NONE);
            DOC.due("column " + n, x.cell(0, n), NONE);
        }
    }

    public static void main(String[] args) {
        sizes();
        costs();
        trees();
        setsAndNumbers();
        tokens();
        places();
        kinds();
        tooMany();
        newObject();
        feed();
        end();
        text();
        fault();
        about();
        cell();
        DOC.finish("boundaries of texts", 1, 7);
    }
}
