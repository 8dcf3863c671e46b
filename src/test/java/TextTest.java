import java.util.ArrayDeque;
import java.util.ArrayList;
import java.util.Deque;
import java.util.HashSet;
import java.util.List;
import java.util.Random;
import java.util.Set;
import java.util.regex.Matcher;
import java.util.regex.Pattern;

/** Promises 2 to 6: the tape, texts and their faults; told ones, and many against another reader. */
public final class TextTest {
    private static final Check CHECK = new Check();

    private static void fault(String text, int fault, int place) {
        TalkTables x = new TalkTables();
        int trees = Check.text(x, text);
        String at = "'" + text + "' ";
        CHECK.due(at + "text", trees == TalkTables.NONE, fault != 0);
        CHECK.due(at + "fault 0", x.fault(0), fault);
        CHECK.due(at + "fault 1", x.fault(1), place);
        CHECK.due(at + "bytes", x.about(4), 0);
    }

    // ---- the tape

    private static void tape() {
        TalkTables x = new TalkTables();
        CHECK.due("end(0) of none", x.end(0), 0);
        CHECK.due("end(1) of none", x.end(1), -1);
        CHECK.due("end(-1)", x.end(-1), -1);
        for (int i = 1; i <= 25; i++) {
            CHECK.due("feed " + i, x.feed(i, i, i, i, i), 20 * i);
        }
        CHECK.due("feed beyond 500", x.feed(0, 0, 0, 0, 0), -1);
        CHECK.due("bytes", x.about(4), 500);
        CHECK.due("end(501)", x.end(501), -1);
        CHECK.due("end(500)", x.end(500), 500);
        CHECK.due("end(481)", x.end(481), 481);
        CHECK.due("feed to 501", x.feed(0, 0, 0, 0, 0), -1);
        CHECK.due("bytes stay", x.about(4), 481);
        CHECK.due("end(480)", x.end(480), 480);
        CHECK.due("feed to 500", x.feed(0, 0, 0, 0, 0), 500);
        CHECK.due("min end", x.end(Integer.MIN_VALUE), -1);
        CHECK.due("max end", x.end(Integer.MAX_VALUE), -1);
        CHECK.due("text of 0 bytes", x.text(), -1);
        CHECK.due("its fault", x.fault(0), 1);
        CHECK.due("its place", x.fault(1), 0);

        TalkTables highest = new TalkTables();
        highest.feed(0x30313233, 0x34353b36, 0x37383930, 0x313b2020, 0x200a2020);
        CHECK.due("highest byte first", highest.text(), 0);
        CHECK.due("rows", highest.about(0), 2);
        for (int c = 0; c < 6; c++) {
            CHECK.due("cell 0 " + c, highest.cell(0, c), c);
            CHECK.due("cell 1 " + c, highest.cell(1, c), (6 + c) % 10);
        }
        TalkTables longest = new TalkTables();
        Check.tape(longest, "5;" + " ".repeat(498));
        CHECK.due("500 bytes", longest.about(4), 500);
        CHECK.due("a text of 500 bytes", longest.text(), 0);
        CHECK.due("its cell", longest.cell(0, 0), 5);
    }

    private static void kept() {
        TalkTables x = Check.of("12;34;cost 2 3;tree t leaf 4;");
        x.put(0, 0, 9);
        CHECK.due("a fault", Check.text(x, "12;34;cost 4 5;tree u leaf 4;tree u leaf 5;"), -1);
        CHECK.due("the act stays", x.about(3), 1);
        CHECK.due("the cell stays", x.cell(0, 0), 9);
        CHECK.due("the rows stay", x.about(0), 2);
        CHECK.due("the trees stay", x.about(2), 1);
        CHECK.due("the tree stays", x.answer(0, 0, 0), 4);
        CHECK.due("the costs stay", x.about(5) * 10 + x.about(6), 23);
        CHECK.due("the place", x.fault(1), 34);
        CHECK.due("undo still", x.undo(), true);
        CHECK.due("as it was", x.cell(0, 0), 1);
        x.turn();
        CHECK.due("another text", Check.text(x, ".\n; "), 0);
        CHECK.due("no acts", x.about(3), 0);
        CHECK.due("no undo", x.undo(), false);
        CHECK.due("no trees", x.about(2), 0);
        CHECK.due("costs again 1", x.about(5) * 10 + x.about(6), 11);
        CHECK.due("no fault", x.fault(0), 0);
        CHECK.due("no place", x.fault(1), -1);
        CHECK.due("a free cell", x.cell(0, 0), 10);
        CHECK.due("one cell", x.cell(0, 1), -1);
        CHECK.due("fault(2)", x.fault(2), -1);
        CHECK.due("fault(-1)", x.fault(-1), -1);
        CHECK.due("about(-1)", x.about(-1), -1);
        CHECK.due("about(9)", x.about(9), -1);
    }

    // ---- faults that are told

    private static void toldFaults() {
        fault("", 2, 0);
        fault("  \n", 2, 3);
        fault(";", 2, 0);
        fault("x", 2, 0);
        fault("cost 1 1;", 2, 0);
        fault("tree t leaf 0;", 2, 0);
        fault("X", 1, 0);
        fault("  -", 1, 2);
        fault("0\t;", 1, 1);
        fault("0\r;", 1, 1);
        fault("0;" + (char) 228, 1, 2);
        fault("0123456;", 1, 0);
        fault("0 123456;", 2, 2);
        fault("0;abcdefg", 1, 2);
        fault("0;abcdef", 2, 2);
        fault("012345;6789..;", 0, -1);
        fault("01", 2, 2);
        fault("01 ", 2, 3);
        fault("01 x", 2, 3);
        fault("01;;", 2, 3);
        fault("01;012;", 4, 3);
        fault("01;0;", 4, 3);
        fault("01;0123456;", 1, 3);
        fault("0;0;0;0;0;0;", 0, -1);
        fault("0;0;0;0;0;0;0", 5, 12);
        fault("0;0;0;0;0;0;00;", 4, 12);
        fault("0;0;0;0;0;0;!", 1, 12);
        fault("0;cost1 1;", 0, -1);
        fault("0;cost1.1;", 4, 6);
        fault("0;cost 11;", 4, 7);
        fault("0;cost . 1;", 4, 7);
        fault("0;cost 0 1;", 4, 7);
        fault("0;cost 9 0;", 4, 9);
        fault("0;cost 9 9", 2, 10);
        fault("0;cost 9;", 2, 8);
        fault("0;cost a 1;", 2, 7);
        fault("0;cost 1 1;0;", 2, 11);
        fault("0;cost 1 1;00;", 2, 11);
        fault("0;cost 1 1;cost 0;", 2, 11);
        fault("0;tree t leaf 0;cost 9 9;", 0, -1);
        fault("0;tree t leaf 0;cost 9 9;tree u leaf 0;", 0, -1);
        fault("0;tree cost leaf 0;", 2, 7);
        fault("0;tree tree leaf 0;", 2, 7);
        fault("0;tree leaf leaf 0;", 2, 7);
        fault("0;tree a leaf 0;", 2, 7);
        fault("0;tree b leaf 0;", 2, 7);
        fault("0;tree c leaf 0;", 0, -1);
        fault("0;tree aa leaf 0;tree ab leaf 0;", 0, -1);
        fault("0;tree zzzzzz leaf 0;tree zzzzz leaf 0;", 0, -1);
        fault("0;tree abcdefg leaf 0;", 1, 7);
        fault("0;tree 1 leaf 0;", 2, 7);
        fault("0;tree ; leaf 0;", 2, 7);
        fault("0;tree t leaf;", 2, 13);
        fault("0;tree t leaf .;", 4, 14);
        fault("0;tree t leaf 00;", 4, 14);
        fault("0;tree t leaf 9;", 0, -1);
        fault("0;tree t leafs 9;", 2, 9);
        fault("0;tree t leaf 9 leaf 9;", 2, 16);
        fault("0;tree t 0;", 2, 9);
        fault("0;tree t cost;", 2, 9);
        fault("0;tree t leaf 0;tree t", 3, 21);
        fault("0;tree t leaf 0;tree t1", 3, 21);
        fault("0;tree ta0leaf1leaf2;", 2, 9);
        fault("0;tree t a0leaf1leaf2;", 0, -1);
        fault("0;tree t a0leaf1;", 2, 16);
        fault("0;tree t a0leaf1", 2, 16);
        fault("0;tree t a leaf1;", 2, 11);
        fault("0;tree t a ;", 2, 11);
        fault("0;tree t a 0123456;", 1, 11);
    }

    private static void toldSets() {
        fault("000000;tree t b 012345 leaf 1 leaf 2;", 0, -1);
        fault("000000;tree t b 5 leaf 1 leaf 2;", 0, -1);
        fault("000000;tree t b 6 leaf 1 leaf 2;", 4, 16);
        fault("000000;tree t b 9 leaf 1 leaf 2;", 4, 16);
        fault("000000;tree t b 00 leaf 1 leaf 2;", 4, 16);
        fault("000000;tree t b 021 leaf 1 leaf 2;", 4, 16);
        fault("000000;tree t b 02. leaf 1 leaf 2;", 4, 16);
        fault("000000;tree t a 01 leaf 1 leaf 2;", 4, 16);
        fault("000000;tree t a 0 leaf 1 leaf 2;", 0, -1);
        fault("0;0;tree t a 01 leaf 1 leaf 2;", 0, -1);
        fault("0;0;tree t a 02 leaf 1 leaf 2;", 4, 13);
        fault("0;0;tree t b 01 leaf 1 leaf 2;", 4, 13);
    }

    private static void toldLimits() {
        String four = "0;tree c leaf 0;tree d leaf 0;tree e leaf 0;tree f leaf 0;";
        fault(four, 0, -1);
        fault(four + "tree", 5, four.length());
        fault(four + "tree c", 5, four.length());
        fault(four + "trees", 2, four.length());
        fault(four + "cost 1 2;", 0, -1);
        fault("0;tree t" + " " + Check.chain(8) + Check.leaves(9) + ";", 0, -1);
        fault("0;tree t" + " " + Check.chain(9) + Check.leaves(10) + ";", 5, 9 + 18);
        fault("0;tree t" + " " + Check.chain(10) + Check.leaves(11) + ";", 5, 9 + 18);
        fault("0;tree t" + " " + Check.chain(9) + "cost", 2, 9 + 18);
        fault("0;tree t" + " " + Check.chain(9) + " 0", 2, 9 + 19);
        fault("0;tree t" + " " + Check.chain(9) + "!", 1, 9 + 18);
        fault("0;tree t" + " " + Check.bushy(15) + ";", 0, -1);
        String many = "0;tree t " + Check.bushy(16);
        fault(many + ";", 5, many.lastIndexOf("leaf", many.length() - 6));
        String inner = "0;tree t " + Check.bushy(15);
        String last = inner.substring(0, inner.length() - 5);
        fault(last + "b0leaf0leaf0;", 5, last.length() + 2);
        fault(last + "b0;", 2, last.length() + 2);
    }

    // ---- faults against another reader

    private static final Pattern TOKEN = Pattern.compile("[a-z]+|[0-9.]+|;|[^ \n]");

    private record Token(String sign, int place) {
        boolean isWord() {
            return sign.matches("[a-z]{1,6}");
        }

        boolean isRun() {
            return sign.matches("[0-9.]{1,6}");
        }

        boolean isBad() {
            return !isWord() && !isRun() && !sign.equals(";") && !sign.isEmpty();
        }
    }

    /** The other reader keeps what it waits for in a stack, and asks a token all that can be wrong. */
    private static int[] otherReader(String text) {
        List<Token> tokens = new ArrayList<>();
        Matcher matcher = TOKEN.matcher(text);
        while (matcher.find()) {
            tokens.add(new Token(matcher.group(), matcher.start()));
        }
        tokens.add(new Token("", text.length()));
        Deque<String> waits = new ArrayDeque<>();
        Set<String> names = new HashSet<>();
        int rows = 0;
        int columns = 0;
        int trees = 0;
        int nodes = 0;
        boolean lines = false;
        boolean cost = false;
        for (Token token : tokens) {
            String wait = waits.isEmpty() ? "start" : waits.pop();
            String sign = token.sign();
            int wrong = token.isBad() ? 1 : 0;
            if (wrong == 0 && wait.equals("start")) {
                if (sign.isEmpty()) {
                    return rows == 0 ? new int[] {2, token.place()} : new int[] {0, -1};
                } else if (token.isRun() && !lines) {
                    wrong = rows > 0 && sign.length() != columns ? 4 : rows >= 6 ? 5 : 0;
                    columns = sign.length();
                    rows++;
                    waits.push(";");
                } else if (rows > 0 && sign.equals("cost") && !cost) {
                    cost = true;
                    lines = true;
                    waits.push(";");
                    waits.push("price");
                    waits.push("price");
                } else if (rows > 0 && sign.equals("tree")) {
                    wrong = trees >= 4 ? 5 : 0;
                    trees++;
                    nodes = 0;
                    lines = true;
                    waits.push(";");
                    waits.push("T0");
                    waits.push("name");
                } else {
                    wrong = 2;
                }
            } else if (wrong == 0 && wait.equals(";")) {
                wrong = sign.equals(";") ? 0 : 2;
            } else if (wrong == 0 && wait.equals("price")) {
                wrong = !token.isRun() ? 2 : sign.matches("[1-9]") ? 0 : 4;
            } else if (wrong == 0 && wait.equals("number")) {
                wrong = !token.isRun() ? 2 : sign.matches("[0-9]") ? 0 : 4;
            } else if (wrong == 0 && wait.equals("name")) {
                wrong = !token.isWord() || sign.matches("cost|tree|leaf|a|b") ? 2
                        : names.add(sign) ? 0 : 3;
            } else if (wrong == 0 && wait.startsWith("set")) {
                int most = wait.equals("seta") ? rows : columns;
                wrong = !token.isRun() ? 2 : 0;
                for (int i = 0; i < sign.length() && wrong == 0; i++) {
                    boolean rising = i == 0 || sign.charAt(i) > sign.charAt(i - 1);
                    wrong = rising && sign.charAt(i) != '.' && sign.charAt(i) - '0' < most ? 0 : 4;
                }
            } else if (wrong == 0) {
                int depth = Integer.parseInt(wait.substring(1));
                wrong = !sign.matches("leaf|a|b") ? 2 : ++nodes > 31 || depth > 8 ? 5 : 0;
                if (sign.equals("leaf")) {
                    waits.push("number");
                } else {
                    waits.push("T" + (depth + 1));
                    waits.push("T" + (depth + 1));
                    waits.push("set" + sign);
                }
            }
            if (wrong != 0) {
                return new int[] {wrong, token.place()};
            }
        }
        throw new IllegalStateException(text);
    }

    private static String sometimes(Random random, String usual, String... others) {
        return random.nextInt(40) == 0 ? others[random.nextInt(others.length)] : usual;
    }

    private static String randomSet(Random random, int most) {
        StringBuilder set = new StringBuilder();
        for (int i = 0; i < most; i++) {
            if (random.nextBoolean()) {
                set.append(i);
            }
        }
        return sometimes(random, set.length() == 0 ? "0" : set.toString(), "" + most, "00", "21", ".",
                "leaf", ";");
    }

    private static void randomTree(Random random, int rows, int columns, int depth, List<String> into) {
        int bush = random.nextInt(4) == 0 ? 6 : 2;
        if (random.nextInt(bush) == 0 || depth > 9) {
            into.add(sometimes(random, "leaf", "lea", "leaff", ";", "3"));
            into.add(sometimes(random, "" + random.nextInt(10), ".", "12", "b", ";"));
            return;
        }
        boolean byA = random.nextBoolean();
        into.add(byA ? "a" : "b");
        into.add(randomSet(random, byA ? rows : columns));
        randomTree(random, rows, columns, depth + 1, into);
        randomTree(random, rows, columns, depth + 1, into);
    }

    private static String randomText(Random random) {
        List<String> tokens = new ArrayList<>();
        int rows = random.nextInt(20) == 0 ? random.nextInt(8) : 1 + random.nextInt(6);
        int columns = 1 + random.nextInt(6);
        for (int r = 0; r < rows; r++) {
            int length = random.nextInt(80) == 0 ? 1 + random.nextInt(8) : columns;
            StringBuilder row = new StringBuilder();
            for (int c = 0; c < length; c++) {
                row.append("0123456789.".charAt(random.nextInt(11)));
            }
            tokens.add(row.toString());
            tokens.add(sometimes(random, ";", ";;", "", "x"));
        }
        int lines = random.nextInt(8);
        for (int i = 0; i < lines; i++) {
            if (random.nextInt(5) == 0) {
                tokens.add("cost");
                tokens.add("" + (1 + random.nextInt(9)));
                tokens.add(sometimes(random, "" + (1 + random.nextInt(9)), "0", "x", "77"));
            } else {
                tokens.add(sometimes(random, "tree", "treee", "123", "!"));
                tokens.add(sometimes(random, "n" + (char) ('a' + random.nextInt(12)), "a", "cost",
                        "longname", "5"));
                randomTree(random, rows, columns, 0, tokens);
            }
            tokens.add(sometimes(random, ";", "", "tree", "7"));
        }
        StringBuilder text = new StringBuilder();
        for (String token : tokens) {
            String gap = random.nextInt(3) == 0 ? "" : random.nextInt(5) == 0 ? " \n" : " ";
            if (text.length() + token.length() + gap.length() > 500) {
                break;
            }
            text.append(random.nextInt(400) == 0 ? "" : token).append(gap);
        }
        if (random.nextInt(8) == 0 && text.length() > 0) {
            text.setCharAt(random.nextInt(text.length()), (char) random.nextInt(256));
        }
        return text.toString();
    }

    public static void main(String[] args) {
        tape();
        kept();
        toldFaults();
        toldSets();
        toldLimits();
        Random random = new Random(7);
        int[] seen = new int[6];
        for (int i = 0; i < 60000; i++) {
            String text = randomText(random);
            int[] want = otherReader(text);
            seen[want[0]]++;
            fault(text, want[0], want[1]);
        }
        for (int i = 0; i < 6; i++) {
            CHECK.due("texts of fault " + i + " were tried", seen[i] > 100, true);
        }
        CHECK.finish("text");
    }
}
