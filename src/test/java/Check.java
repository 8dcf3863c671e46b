/** What the tests share: a text is loaded, answers are compared, the number of unlike ones ends it. */
final class Check {
    private int wrong = 0;
    private int made = 0;

    void due(String call, long got, long want) {
        made++;
        if (got != want) {
            wrong++;
            if (wrong <= 40) {
                System.out.println(call + " answered " + got + ", due is " + want);
            }
        }
    }

    void due(String call, boolean got, boolean want) {
        due(call, got ? 1 : 0, want ? 1 : 0);
    }

    void finish(String name) {
        System.out.println(name + ": " + made + " answers, " + wrong + " of them wrong");
        if (wrong != 0) {
            System.exit(1);
        }
    }

    /** The text's bytes on the tape, and no more. */
    static void tape(TalkTables x, String text) {
        int before = x.about(4);
        int[] numbers = new int[5];
        for (int i = 0; i < text.length(); i += 20) {
            for (int n = 0; n < 5; n++) {
                numbers[n] = 0;
                for (int b = 0; b < 4; b++) {
                    int at = i + 4 * n + b;
                    numbers[n] = numbers[n] << 8 | (at < text.length() ? text.charAt(at) & 255 : 32);
                }
            }
            x.feed(numbers[0], numbers[1], numbers[2], numbers[3], numbers[4]);
        }
        x.end(before + text.length());
    }

    static int text(TalkTables x, String text) {
        tape(x, text);
        return x.text();
    }

    static TalkTables of(String text) {
        TalkTables x = new TalkTables();
        if (text(x, text) == TalkTables.NONE) {
            System.out.println("not a text: " + text + " (" + x.fault(0) + " at " + x.fault(1) + ")");
            System.exit(1);
        }
        return x;
    }

    /** So many nodes, each the first part of the one ahead of it; their second parts are to follow. */
    static String chain(int nodes) {
        return "a0".repeat(nodes);
    }

    static String leaves(int many) {
        return "leaf0".repeat(many);
    }

    /** A tree of 2 n + 1 nodes, none within more than five others. */
    static String bushy(int inner) {
        return inner == 0 ? "leaf0" : "b0" + bushy((inner - 1) / 2) + bushy(inner - 1 - (inner - 1) / 2);
    }
}
