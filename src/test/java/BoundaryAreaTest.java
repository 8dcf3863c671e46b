/** The areas' terms and promises 8 to 18: each sentence of the document that names a boundary case. */
public final class BoundaryAreaTest {
    private static final Sentences DOC = new Sentences();
    private static final int TERMS = Sentences.TERMS;
    private static final int NONE = TalkTables.NONE;
    private static final int LEAST = Integer.MIN_VALUE;
    private static final int MOST = Integer.MAX_VALUE;
    private static final int[] NO_VALUE = {-1, 10, 11, LEAST, MOST};

    private static void area() {
        DOC.says(TERMS, "some ROWS and some COLUMNS (bits; one of each at least), the CELLS in both");
        for (int r = 1; r <= 6; r++) {
            for (int c = 1; c <= 6; c++) {
                TalkTables x = Check.of(Sentences.filled(r, c, '4'));
                int rows = (1 << r) - 1;
                int columns = (1 << c) - 1;
                DOC.due("all of " + r + " " + c, x.area(rows, columns, 2), r * c);
                DOC.due("the last cell", x.area(1 << (r - 1), 1 << (c - 1), 2), 1);
                DOC.due("no rows", x.area(0, columns, 2), NONE);
                DOC.due("no columns", x.area(rows, 0, 2), NONE);
                DOC.due("the row behind", x.area(1 << r, columns, 2), NONE);
                DOC.due("the column behind", x.area(rows, 1 << c, 2), NONE);
            }
        }

        DOC.says(TERMS, "---- areas (NONE: one without ROWS, COLUMNS, with others)");
        TalkTables x = Check.of("5.;.5;..;6.;");
        for (int what = 0; what < 4; what++) {
            for (int others : new int[] {0, 16, 17, 31, 32, 64, -1, -16, LEAST, LEAST + 1, MOST}) {
                DOC.due("rows " + others, x.area(others, 1, what), NONE);
                DOC.due("columns " + others, x.area(1, others, what), NONE);
            }
            DOC.due("columns 4", x.area(1, 4, what), NONE);
            DOC.due("columns 5", x.area(1, 5, what), NONE);
            DOC.due("neither", x.area(0, 0, what), NONE);
        }

        DOC.says(TERMS, "if its CELLS that are not FREE have one VALUE, or there is none such.");
        DOC.due("one value and free ones", x.area(7, 3, 0), 1);
        DOC.due("two values", x.area(15, 3, 0), 0);
        DOC.due("two values, one column", x.area(9, 1, 0), 0);
        DOC.due("all free", x.area(4, 3, 0), 1);

        DOC.says(8, "1: its VALUE then (10: all are FREE; NONE, too, if it is not)");
        DOC.due("one value and free ones", x.area(7, 3, 1), 5);
        DOC.due("all free", x.area(4, 3, 1), 10);
        DOC.due("not alike", x.area(15, 3, 1), NONE);
        DOC.due("value 0", Check.of("0.;").area(1, 3, 1), 0);
        DOC.due("value 9", Check.of("9.;").area(1, 3, 1), 9);

        DOC.says(8, "2: CELLS that are not FREE, 3: how many unlike VALUES.");
        DOC.due("all free, 2", x.area(4, 3, 2), 0);
        DOC.due("all free, 3", x.area(4, 3, 3), 0);
        DOC.due("all of it, 2", x.area(15, 3, 2), 3);
        DOC.due("all of it, 3", x.area(15, 3, 3), 2);
        TalkTables ten = Check.of("01234;56789;");
        DOC.due("ten cells", ten.area(3, 31, 2), 10);
        DOC.due("ten values", ten.area(3, 31, 3), 10);

        DOC.says(8, "NONE, too, for another what.");
        for (int what : new int[] {-2, -1, 4, 5, LEAST, MOST}) {
            DOC.due("what " + what, x.area(1, 1, what), NONE);
        }
    }

    private static void isGreatest(String text, int value, int cells, int rows, int columns) {
        TalkTables x = Check.of(text);
        DOC.due(text + " cells", x.greatest(value, 0), cells);
        DOC.due(text + " rows", x.greatest(value, 1), rows);
        DOC.due(text + " columns", x.greatest(value, 2), columns);
    }

    private static void greatest() {
        DOC.says(TERMS, "of all AREAS in which no CELL has another VALUE that with the most CELLS of it");
        isGreatest("1.;.1;", 1, 2, 3, 3);
        isGreatest("1.1;.0.;1.1;", 1, 4, 5, 5);
        isGreatest("100;011;011;", 1, 4, 6, 6);

        DOC.says(TERMS, "of like ones the least number of its ROWS, then of its COLUMNS.");
        isGreatest("10;01;", 1, 1, 1, 1);
        isGreatest("10;01;", 0, 1, 1, 2);
        isGreatest("100;100;011;", 1, 2, 3, 1);
        isGreatest("011;100;100;", 1, 2, 1, 6);
        isGreatest(".1;", 1, 1, 1, 2);
        isGreatest("1.;", 1, 1, 1, 1);
        isGreatest(".;1;", 1, 1, 2, 1);
        isGreatest("1;.;", 1, 1, 1, 1);
        isGreatest(".1.;...;", 1, 1, 1, 2);

        DOC.says(9, "GREATEST AREA of a VALUE (0 .. 9) what 0: CELLS of it, 1: ROWS, 2: COLUMNS.");
        isGreatest(Sentences.filled(6, 6, '0'), 0, 36, 63, 63);
        isGreatest(Sentences.filled(6, 6, '9'), 9, 36, 63, 63);

        DOC.says(9, "NONE if it stands nowhere, for others.");
        TalkTables x = Check.of("0.;.9;");
        TalkTables free = new TalkTables();
        for (int what = 0; what < 3; what++) {
            for (int value = 1; value < 9; value++) {
                DOC.due("nowhere " + value, x.greatest(value, what), NONE);
                DOC.due("all free " + value, free.greatest(value, what), NONE);
            }
            for (int value : NO_VALUE) {
                DOC.due("value " + value, x.greatest(value, what), NONE);
            }
        }
        for (int what : new int[] {-2, -1, 3, 4, LEAST, MOST}) {
            DOC.due("what " + what, x.greatest(0, what), NONE);
        }
    }

    private static void cover() {
        DOC.says(TERMS, "COVER of a VALUE: the fewest such AREAS that have all its CELLS.");
        int[] zeros = {0, 2, 3, 4, 4, 4};
        for (int side = 1; side <= 6; side++) {
            TalkTables x = Check.of(Sentences.equality(side));
            DOC.due("ones of side " + side, x.cover(1), side);
            DOC.due("zeros of side " + side, x.cover(0), zeros[side - 1]);
        }
        DOC.due("over free cells", Check.of("1.;.1;").cover(1), 1);
        DOC.due("not over another value", Check.of("1.;01;").cover(1), 2);
        DOC.due("the whole", Check.of(Sentences.filled(6, 6, '3')).cover(3), 1);
        DOC.due("one cell", Check.of("8;").cover(8), 1);

        DOC.says(10, "COVER of a VALUE (0 if it stands nowhere); NONE if it is not 0 .. 9.");
        TalkTables x = Check.of("0.;.9;");
        TalkTables free = new TalkTables();
        for (int value = 0; value < 10; value++) {
            DOC.due("cover " + value, x.cover(value), value == 0 || value == 9 ? 1 : 0);
            DOC.due("all free " + value, free.cover(value), 0);
        }
        for (int value : NO_VALUE) {
            DOC.due("cover " + value, x.cover(value), NONE);
            DOC.due("all free " + value, free.cover(value), NONE);
        }
    }

    private static void full() {
        DOC.says(TERMS, "those that have a CELL of it, none of another VALUE, and are within no other such "
                + "AREA");
        TalkTables half = Check.of("1.;0.;");
        DOC.due("free cells alone are none", half.full(1, NONE, 0), 1);
        DOC.due("its rows", half.full(1, 0, 0), 1);
        DOC.due("its columns, the free one, too", half.full(1, 0, 1), 3);
        TalkTables whole = Check.of(Sentences.filled(6, 6, '5'));
        DOC.due("the whole alone", whole.full(5, NONE, 0), 1);
        DOC.due("all rows", whole.full(5, 0, 0), 63);
        DOC.due("all columns", whole.full(5, 0, 1), 63);
        DOC.due("none behind it", whole.full(5, 1, 0), NONE);

        DOC.says(TERMS, "numbered by ROWS (the least number first), then by COLUMNS.");
        TalkTables most = Check.of(Sentences.equality(6));
        for (int k = 0; k < 62; k++) {
            DOC.due("rows of " + k, most.full(0, k, 0), k + 1);
            DOC.due("columns of " + k, most.full(0, k, 1), 62 - k);
        }

        DOC.says(11, "How many FULL AREAS a VALUE has (k NONE, what no matter); of the k-th (0 ..)");
        for (int what : new int[] {-1, 0, 1, 2, 3, LEAST, MOST}) {
            DOC.due("the most, what " + what, most.full(0, NONE, what), 62);
            DOC.due("ones, what " + what, most.full(1, NONE, what), 6);
            DOC.due("nowhere, what " + what, most.full(9, NONE, what), 0);
            DOC.due("all free, what " + what, new TalkTables().full(0, NONE, what), 0);
        }

        DOC.says(11, "NONE if there is none such, the VALUE is not 0 .. 9, for another what.");
        for (int what = 0; what < 2; what++) {
            for (int k : new int[] {62, 63, 64, -2, LEAST, MOST}) {
                DOC.due("the " + k + "-th", most.full(0, k, what), NONE);
            }
            DOC.due("of a value nowhere", most.full(9, 0, what), NONE);
            for (int value : NO_VALUE) {
                DOC.due("value " + value, most.full(value, 0, what), NONE);
                DOC.due("how many of " + value, most.full(value, NONE, what), NONE);
            }
        }
        for (int what : new int[] {-1, 2, 3, LEAST, MOST}) {
            DOC.due("what " + what, most.full(0, 0, what), NONE);
        }
    }

    private static void conflict() {
        DOC.says(12, "The first COLUMN in which two ROWS (byB: ROW in which two COLUMNS) have VALUES "
                + "that are not one");
        TalkTables x = Check.of("0.57;0158;..5.;");
        DOC.due("the last column", x.conflict(false, 0, 1), 3);
        DOC.due("the other way round", x.conflict(false, 1, 0), 3);
        DOC.due("columns, the second row", x.conflict(true, 0, 1), 1);
        DOC.due("columns, the first row", x.conflict(true, 0, 2), 0);
        DOC.due("a column beyond the rows' number", x.conflict(true, 3, 1), 1);
        DOC.due("the last row", Check.of("1;1;1;1;1;1;").conflict(true, 0, 0), NONE);
        DOC.due("the last of six", Check.of("000000;000001;").conflict(false, 0, 1), 5);
        DOC.due("the last of six rows", Check.of("00;00;00;00;00;01;").conflict(true, 0, 1), 5);

        DOC.says(12, "NONE if there is none, if there are none such.");
        DOC.due("free ones are not unlike", x.conflict(false, 0, 2), NONE);
        DOC.due("a row and itself", x.conflict(false, 1, 1), NONE);
        DOC.due("a column and itself", x.conflict(true, 3, 3), NONE);
        for (int n : new int[] {-1, 4, 5, 6, 7, 64, LEAST, MOST}) {
            for (boolean byB : new boolean[] {false, true}) {
                DOC.due("one " + n + " " + byB, x.conflict(byB, n, 0), NONE);
                DOC.due("other " + n + " " + byB, x.conflict(byB, 0, n), NONE);
                DOC.due("both " + n + " " + byB, x.conflict(byB, n, n), NONE);
            }
        }
        TalkTables most = Check.of(Sentences.equality(6));
        for (boolean byB : new boolean[] {false, true}) {
            DOC.due("the last of six " + byB, most.conflict(byB, 5, 0), 0);
            DOC.due("one behind six " + byB, most.conflict(byB, 6, 0), NONE);
            DOC.due("the other behind six " + byB, most.conflict(byB, 0, 6), NONE);
        }
        DOC.due("a row beyond, though a column is there", x.conflict(false, 0, 3), NONE);
        DOC.due("that column", x.conflict(true, 0, 3), 0);
    }

    private static void around() {
        DOC.says(13, "The most CELLS of its VALUE that an AREA with a CELL has, in which no CELL has "
                + "another VALUE");
        DOC.due("the whole", Check.of(Sentences.filled(6, 6, '2')).around(5, 5), 36);
        DOC.due("itself alone", Check.of(Sentences.equality(6)).around(5, 5), 1);
        TalkTables x = Check.of("111;001;");
        DOC.due("in the greatest", x.around(0, 0), 3);
        DOC.due("not in the greatest", x.around(1, 2), 2);
        DOC.due("over free cells", Check.of("1.;.1;").around(0, 0), 2);
        DOC.due("not over another value", Check.of("1.;01;").around(0, 0), 1);

        DOC.says(13, "NONE if there is none such, it is FREE.");
        TalkTables free = Check.of("0.;");
        DOC.due("a cell", free.around(0, 0), 1);
        DOC.due("a free one", free.around(0, 1), NONE);
        DOC.due("of a new object", new TalkTables().around(0, 0), NONE);
        for (int n : new int[] {-1, 2, 3, 5, 6, LEAST, MOST}) {
            DOC.due("row " + n, x.around(n, 0), NONE);
            DOC.due("column " + n, x.around(0, n), n == 2 ? 3 : NONE);
        }
    }

    private static void fooling() {
        DOC.says(TERMS, "of any two of these, (r, c) and (s, d), (r, d) or (s, c) has another VALUE.");
        DOC.due("one row", Check.of("111111;").fooling(1, NONE), 1);
        DOC.due("one column", Check.of("1;1;1;1;1;1;").fooling(1, NONE), 1);
        DOC.due("free is not another", Check.of("1.;.1;").fooling(1, NONE), 1);
        DOC.due("one of both will do", Check.of("1.;01;").fooling(1, NONE), 2);
        DOC.due("the other will do", Check.of("10;.1;").fooling(1, NONE), 2);

        DOC.says(TERMS, "with the most CELLS; of like ones the first as a row of CELLS (rising by ROWS; "
                + "each as 10 times the ROW and the COLUMN).");
        TalkTables later = Check.of("11;10;");
        DOC.due("the most ahead of the first", later.fooling(1, 0), 1);
        DOC.due("then", later.fooling(1, 1), 10);
        DOC.due("the first of like ones", Check.of("11;11;").fooling(1, 0), 0);
        TalkTables zeros = Check.of(Sentences.equality(4));
        int[] first = {1, 12, 20};
        for (int k = 0; k < 3; k++) {
            DOC.due("zeros " + k, zeros.fooling(0, k), first[k]);
        }

        DOC.says(14, "how many CELLS (k NONE), the k-th (0 ..). NONE if there is none such, the VALUE is "
                + "not 0 .. 9.");
        TalkTables six = Check.of(Sentences.equality(6));
        DOC.due("six, the most", six.fooling(1, NONE), 6);
        for (int k = 0; k < 6; k++) {
            DOC.due("the " + k + "-th", six.fooling(1, k), 11 * k);
        }
        for (int k : new int[] {6, 7, -2, LEAST, MOST}) {
            DOC.due("the " + k + "-th", six.fooling(1, k), NONE);
        }
        DOC.due("nowhere, how many", six.fooling(9, NONE), 0);
        DOC.due("nowhere, the first", six.fooling(9, 0), NONE);
        DOC.due("all free", new TalkTables().fooling(0, NONE), 0);
        for (int value : NO_VALUE) {
            DOC.due("value " + value, six.fooling(value, NONE), NONE);
            DOC.due("value " + value + ", the first", six.fooling(value, 0), NONE);
            DOC.due("value " + value + ", all free", new TalkTables().fooling(value, NONE), NONE);
        }
    }

    private static void fools() {
        DOC.says(15, "How many FOOLING SETS of n (0 .. 6) CELLS a VALUE has");
        TalkTables six = Check.of(Sentences.equality(6));
        int[] ones = {1, 6, 15, 20, 15, 6, 1};
        TalkTables whole = Check.of(Sentences.filled(6, 6, '0'));
        int[] few = {1, 3, 1, 0, 0, 0, 0};
        TalkTables three = Check.of("11;10;");
        for (int n = 0; n <= 6; n++) {
            DOC.due("ones, " + n, six.fools(1, n), ones[n]);
            DOC.due("of one value, " + n, whole.fools(0, n), n == 0 ? 1 : n == 1 ? 36 : 0);
            DOC.due("three cells, " + n, three.fools(1, n), few[n]);
            DOC.due("nowhere, " + n, six.fools(9, n), n == 0 ? 1 : 0);
            DOC.due("all free, " + n, new TalkTables().fools(0, n), n == 0 ? 1 : 0);
        }

        DOC.says(15, "NONE if it is not 0 .. 9, for another n.");
        for (int n : new int[] {-2, -1, 7, 8, LEAST, MOST}) {
            DOC.due("n " + n, six.fools(1, n), NONE);
            DOC.due("nowhere, n " + n, six.fools(9, n), NONE);
        }
        for (int value : NO_VALUE) {
            for (int n = 0; n <= 6; n++) {
                DOC.due("value " + value + ", n " + n, six.fools(value, n), NONE);
            }
        }
    }

    private static void rank() {
        DOC.says(TERMS, "RANK (FREE is 0): of the numbers, or modulo a prime.");
        TalkTables free = Check.of(Sentences.filled(6, 6, '.'));
        DOC.due("all free", free.rank(0), 0);
        DOC.due("all free, modulo 2", free.rank(2), 0);
        DOC.due("all 0", Check.of(Sentences.filled(6, 6, '0')).rank(0), 0);
        DOC.due("free as 0", Check.of("1.;.1;").rank(0), 2);
        DOC.due("free as 0 again", Check.of("11;1.;").rank(2), 2);
        DOC.due("six", Check.of(Sentences.equality(6)).rank(0), 6);
        DOC.due("six, modulo 97", Check.of(Sentences.equality(6)).rank(97), 6);
        DOC.due("0 where one begins", Check.of("01;10;").rank(0), 2);
        DOC.due("0 where one begins, modulo 2", Check.of("001;010;110;").rank(2), 3);
        DOC.due("a column of 0", Check.of("001;002;010;").rank(0), 2);
        DOC.due("minors that don't wrap around",
                Check.of(Sentences.equality(6).replace('1', '8')).rank(0), 6);
        DOC.due("one row", Check.of("999999;").rank(0), 1);
        DOC.due("one column", Check.of("0;0;9;0;9;0;").rank(0), 1);
        TalkTables both = Check.of("20;03;");
        int[][] ranks = {{0, 2}, {2, 1}, {3, 1}, {5, 2}};
        for (int[] rank : ranks) {
            DOC.due("2 and 3 by " + rank[0], both.rank(rank[0]), rank[1]);
        }
        TalkTables last = Check.of("754;913;091;");
        DOC.due("whose minor is 97, of the numbers", last.rank(0), 3);
        DOC.due("whose minor is 97, modulo 89", last.rank(89), 3);
        DOC.due("whose minor is 97, modulo 97", last.rank(97), 2);
        for (int prime : new int[] {2, 3, 5, 7}) {
            DOC.due(prime + " modulo itself", Check.of(prime + ";").rank(prime), 0);
            DOC.due(prime + " modulo 11", Check.of(prime + ";").rank(11), 1);
        }

        DOC.says(16, "RANK modulo a prime (2 .. 97), or of the numbers (0); NONE for others.");
        String primes = " 0 2 3 5 7 11 13 17 19 23 29 31 37 41 43 47 53 59 61 67 71 73 79 83 89 97 ";
        TalkTables one = Check.of("1;");
        for (int n = -120; n <= 400; n++) {
            DOC.due("rank " + n, one.rank(n), primes.contains(" " + n + " ") ? 1 : NONE);
        }
        for (int n : new int[] {LEAST, LEAST + 1, MOST, 65537, -97}) {
            DOC.due("rank " + n, one.rank(n), NONE);
        }
    }

    private static void groups() {
        DOC.says(TERMS, "the fewest sets of ROWS, each ROW in one, so that in each COLUMN those of a set "
                + "have no two VALUES that are not one");
        DOC.due("free goes with either", Check.of("1;.;0;").groups(false), 2);
        DOC.due("but not with both", Check.of("10;..;01;").groups(false), 2);
        DOC.due("all free", Check.of(Sentences.filled(6, 6, '.')).groups(false), 1);
        DOC.due("a ring of five", Check.of("1...0;01...;.01..;..01.;...01;").groups(false), 3);

        DOC.says(17, "GROUPS of A (byB false), of B.");
        TalkTables x = Check.of("012345;");
        DOC.due("one row", x.groups(false), 1);
        DOC.due("six columns", x.groups(true), 6);
        TalkTables y = Check.of("0;1;2;3;4;5;");
        DOC.due("six rows", y.groups(false), 6);
        DOC.due("one column", y.groups(true), 1);
        DOC.due("new, A", new TalkTables().groups(false), 1);
        DOC.due("new, B", new TalkTables().groups(true), 1);
    }

    private static void leaning() {
        DOC.says(TERMS, "the most by which in an AREA CELLS of it are more than CELLS of others, or fewer "
                + "(FREE ones of neither)");
        TalkTables whole = Check.of(Sentences.filled(6, 6, '0'));
        DOC.due("more, by all", whole.leaning(0), 36);
        DOC.due("fewer, by all", whole.leaning(1), 36);
        DOC.due("all free", Check.of(Sentences.filled(6, 6, '.')).leaning(0), 0);
        TalkTables x = Check.of("1.;.0;");
        DOC.due("one cell", x.leaning(1), 1);
        DOC.due("two others", x.leaning(5), 2);
        DOC.due("an area that is not all", Check.of("110;001;").leaning(1), 2);
        DOC.due("more in an area", Check.of("111;000;000;").leaning(1), 6);

        DOC.says(18, "LEANING of a VALUE; NONE if it is not 0 .. 9.");
        for (int value = 0; value < 10; value++) {
            DOC.due("leaning " + value, Check.of("" + value + value + ";").leaning(value), 2);
        }
        for (int value : NO_VALUE) {
            DOC.due("leaning " + value, x.leaning(value), NONE);
            DOC.due("all free " + value, new TalkTables().leaning(value), NONE);
        }
    }

    public static void main(String[] args) {
        area();
        greatest();
        cover();
        full();
        conflict();
        around();
        fooling();
        fools();
        rank();
        groups();
        leaning();
        DOC.finish("boundaries of areas", 8, 18);
    }
}
