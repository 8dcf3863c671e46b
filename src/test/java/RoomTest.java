import java.lang.management.ManagementFactory;
import java.util.Random;

/** A run of the dearest calls makes little, and no call throws for any arguments in any state. */
public final class RoomTest {
    private static final Check CHECK = new Check();
    private static final int[] ODD = {Integer.MIN_VALUE, -1000000, -12, -2, -1, 0, 1, 2, 3, 4, 5, 6, 7,
        8, 9, 10, 11, 12, 20, 21, 31, 32, 33, 63, 64, 97, 499, 500, 501, 1 << 16, Integer.MAX_VALUE};

    private static long madeSoFar() {
        return ((com.sun.management.ThreadMXBean) ManagementFactory.getThreadMXBean())
                .getThreadAllocatedBytes(Thread.currentThread().getId());
    }

    private static final String DEAREST = "012345;543210;.0.1.2;987654;135790;202020;cost 9 1;"
            + "tree t a 02 b 135 leaf 0 leaf 1 b 0 leaf 2 a 1 leaf 3 leaf 4;";

    /** All that 500 calls on an object make, so that even a hundred such objects have room. */
    private static void dearest() {
        Check.of(DEAREST).byTurns(5);
        long before = madeSoFar();
        TalkTables x = new TalkTables();
        long made = madeSoFar() - before;
        CHECK.due("bytes that a new object makes: " + made, made < 30000, true);
        Check.text(x, DEAREST);
        before = madeSoFar();
        for (int i = 0; i < 100; i++) {
            x.put(i % 6, i / 6 % 6, i % 11);
            x.turn();
            x.byTurns(5);
            x.wrong(20);
            x.node(i % 3, -1, 0);
        }
        made = madeSoFar() - before;
        CHECK.due("bytes that 500 calls make: " + made, made < 150000, true);
    }

    private static int odd(Random random) {
        return random.nextInt(3) == 0 ? random.nextInt(8) : ODD[random.nextInt(ODD.length)];
    }

    private static void areaCall(TalkTables x, Random random) {
        int a = odd(random);
        int b = odd(random);
        int c = odd(random);
        switch (random.nextInt(13)) {
            case 0: x.area(a, b, c); break;
            case 1: x.greatest(a, b); break;
            case 2: x.cover(a); break;
            case 3: x.full(a, b, c); break;
            case 4: x.conflict(random.nextBoolean(), a, b); break;
            case 5: x.around(a, b); break;
            case 6: x.fooling(a, b); break;
            case 7: x.fools(a, b); break;
            case 8: x.rank(a); break;
            case 9: x.groups(random.nextBoolean()); break;
            case 10: x.leaning(a); break;
            case 11: x.about(a); break;
            default: x.cell(a, b); break;
        }
    }

    private static void treeCall(TalkTables x, Random random) {
        int a = odd(random);
        int b = odd(random);
        int c = odd(random);
        switch (random.nextInt(13)) {
            case 0: x.best(a); break;
            case 1: x.byTurns(a); break;
            case 2: x.node(a, b, c); break;
            case 3: x.wrong(a); break;
            case 4: x.bound(a); break;
            case 5: x.answer(a, b, c); break;
            case 6: x.cost(a, b, c); break;
            case 7: x.leaf(a, b, c); break;
            case 8: x.bit(a, b, c, odd(random)); break;
            case 9: x.tree(a, b); break;
            case 10: x.told(a, b, c); break;
            case 11: x.graft(a, b, c); break;
            default: x.apart(a, b); break;
        }
    }

    private static void changeCall(TalkTables x, Random random) {
        switch (random.nextInt(9)) {
            case 0: x.feed(odd(random), random.nextInt(), 0x3b303b20, odd(random), 0x74726565); break;
            case 1: x.end(odd(random)); break;
            case 2: x.text(); break;
            case 3: Check.text(x, DEAREST); break;
            case 4: Check.text(x, "0;1;.;tree t b 0 leaf 1 leaf 2;"); break;
            case 5: x.fault(odd(random)); break;
            case 6: x.put(odd(random), odd(random), odd(random)); break;
            case 7: x.turn(); break;
            default: x.undo(); break;
        }
    }

    public static void main(String[] args) {
        dearest();
        Random random = new Random(11);
        for (int i = 0; i < 300; i++) {
            TalkTables x = new TalkTables();
            for (int n = 0; n < 600; n++) {
                int kind = random.nextInt(10);
                if (kind < 4) {
                    areaCall(x, random);
                } else if (kind < 8) {
                    treeCall(x, random);
                } else {
                    changeCall(x, random);
                }
            }
            CHECK.due("an object that has been through it", x.about(0) >= 1, true);
        }
        CHECK.finish("room");
    }
}
