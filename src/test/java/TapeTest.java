/** Promises 1 and 2: a new object, and bytes on THE TAPE. */
public final class TapeTest {
    private static final Due DUE = new Due("TapeTest");

    public static void main(String[] args) {
        newObject();
        bytesCome();
        refusals();
        order();
        DUE.end();
    }

    private static void newObject() {
        PuzzleParts x = new PuzzleParts();
        for (int what = 0; what <= 5; what++) {
            DUE.is("count(" + what + ") of a new object", x.count(what), 0);
        }
        for (int what = 11; what <= 16; what++) {
            DUE.is("count(" + what + ") of a new object", x.count(what), 0);
        }
        DUE.is("partOf(0, 0) of a new object", x.partOf(0, 0), -1);
        DUE.is("overlap() of a new object", x.overlap(), -9);
        DUE.is("leak() of a new object", x.leak(), -9);
        DUE.is("clear() of a new object", x.clear(), 0);
        PuzzleParts other = new PuzzleParts();
        Due.part(x, "..");
        DUE.is("count(0) of another object", other.count(0), 0);
    }

    private static void bytesCome() {
        PuzzleParts x = new PuzzleParts();
        DUE.is("feed 1", x.feed(1, Due.bytes(".")), 1);
        DUE.is("feed 2 of more", x.feed(2, Due.bytes("#0!!!!!!")), 3);
        DUE.is("feed 8", x.feed(8, Due.bytes("/.../1.2")), 11);
        DUE.is("count(4)", x.count(4), 11);
        DUE.is("part()", x.part(), 0);
        DUE.shows(x, 0, ".#0/.../1.2");
        DUE.is("count(4)", x.count(4), 0);
        DUE.is("feed with the highest bit", x.feed(8, -1L), 8);
        DUE.is("part() of bytes 255", x.part(), -20);
        DUE.is("feed with the highest bit", x.feed(8, Due.bytes(".......") | 0xAEL << 56), 8);
        DUE.is("a sixth CELL", x.part(), -25);
        x.feed(5, Due.bytes("..../") | 0xFFFFFF0000000000L);
        x.feed(4, Due.bytes("...") | 0x2EL + 128 << 24);
        DUE.is("byte 174 is no dot", x.part(), -28);
    }

    private static void refusals() {
        PuzzleParts x = new PuzzleParts();
        DUE.is("feed(0, 46)", x.feed(0, 46), -4);
        DUE.is("feed(-1, 46)", x.feed(-1, 46), -4);
        DUE.is("feed(least, 46)", x.feed(Integer.MIN_VALUE, 46), -4);
        DUE.is("feed(9, 46)", x.feed(9, 46), -6);
        DUE.is("feed(greatest, 46)", x.feed(Integer.MAX_VALUE, 46), -6);
        DUE.is("count(4)", x.count(4), 0);
        for (int i = 1; i <= 4; i++) {
            DUE.is("feed 8", x.feed(8, 0), 8 * i);
        }
        DUE.is("feed 7", x.feed(7, 0), 39);
        DUE.is("feed 2 beyond 40", x.feed(2, 0), -6);
        DUE.is("feed 1 to 40", x.feed(1, 0), 40);
        DUE.is("feed 1 beyond 40", x.feed(1, 0), -6);
        DUE.is("feed(0, 0), when full", x.feed(0, 0), -4);
        DUE.is("count(4)", x.count(4), 40);
        DUE.is("count(14)", x.count(14), 4);
        DUE.is("count(16)", x.count(16), 4);
    }

    private static void order() {
        PuzzleParts x = new PuzzleParts();
        Due.feed(x, "01");
        Due.feed(x, "/..");
        DUE.is("part() of two feeds", x.part(), 0);
        DUE.shows(x, 0, "01/..");
    }
}
