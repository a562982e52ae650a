import java.lang.management.ManagementFactory;

/** Dear runs of 512 calls: each stays far within the room of 600,000 objects and 7.3 million elements. */
public final class RoomTest {
    private static final Due DUE = new Due("RoomTest");
    private static final int CALLS = 512;
    /** Less than the 7.3 million elements would take, were all of them single bytes. */
    private static final long MOST_BYTES = 4_000_000L;

    public static void main(String[] args) {
        for (int kind = 0; kind < 9; kind++) {
            run(kind, new PuzzleParts());
        }
        for (int kind = 0; kind < 9; kind++) {
            PuzzleParts x = new PuzzleParts();
            long before = allocated();
            run(kind, x);
            long taken = allocated() - before;
            System.out.println("RoomTest: run " + kind + " takes " + taken + " bytes");
            DUE.is("run " + kind + " of " + taken + " bytes stays below " + MOST_BYTES, taken < MOST_BYTES ? 1 : 0, 1);
        }
        DUE.end();
    }

    private static long allocated() {
        return ((com.sun.management.ThreadMXBean) ManagementFactory.getThreadMXBean())
                .getThreadAllocatedBytes(Thread.currentThread().getId());
    }

    private static void run(int kind, PuzzleParts x) {
        long whole = Due.bytes("...../..");
        long lines = Due.bytes(".../....");
        x.feed(8, whole);
        x.feed(8, lines);
        x.feed(7, Due.bytes("./01.23"));
        x.part();
        x.feed(1, Due.bytes("0"));
        x.formula();
        denseNet(x);
        for (int i = 0; i < 10; i++) {
            x.lay(x.count(0) - 1, i % 2 * 5, i);
        }
        for (int call = 60; call < CALLS; call++) {
            dear(kind, x, call);
        }
    }

    /** Eight PIECES, twelve LINKS, five FREE FACES. */
    private static void denseNet(PuzzleParts x) {
        x.net();
        String[] texts = {"012/34.", "012/...", "0.1/..2"};
        for (int i = 0; i < 8; i++) {
            if (i < texts.length) {
                Due.part(x, texts[i]);
            }
            x.piece(0, i < 5 ? 2 + i % 2 : 1);
        }
        for (int i = 0; i < 12; i++) {
            int free = x.free(0, 0);
            int other = x.free(0, 1 + 5 * i % 7);
            x.link(0, free, other);
        }
    }

    private static void dear(int kind, PuzzleParts x, int call) {
        switch (kind) {
            case 0:
                x.needless(0);
                break;
            case 1:
                x.netDoes(0, 0);
                break;
            case 2:
                x.howMany(0, call % 32);
                break;
            case 3:
                if (x.put(11) == 1) {
                    x.find(3, 3, 0);
                }
                break;
            case 4:
                x.leak();
                break;
            case 5:
                x.floorNet();
                break;
            case 6:
                x.feed(3, Due.bytes("..0"));
                x.part();
                break;
            case 7:
                x.feed(1, Due.bytes("a"));
                x.formula();
                break;
            default:
                x.covered(0, call % 16, call % 5 * 10 + call % 4);
        }
    }
}
