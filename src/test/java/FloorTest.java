/** Promises 29 to 34: PARTS LAID on THE FLOOR, OVERLAP, what MEETS, LEAK, its NET, and clearing it. */
public final class FloorTest {
    private static final Due DUE = new Due("FloorTest");
    private static final String[] TEXTS = {"0.1", "..", "0", "#0#/1.2/#3#", "0123", ".", "##/#.", "01234/#####/####.",
        "0/1/2/3", "###", "01"};
    private static final int XOR = 0;
    private static final int PAIR = 1;
    private static final int ONE = 2;
    private static final int CROSS = 3;
    private static final int FOUR = 4;
    private static final int DOT = 5;
    private static final int CORNER = 6;
    private static final int FIVE = 7;
    private static final int TALL = 8;
    private static final int BLOCKED = 9;
    private static final int SAME = 10;

    public static void main(String[] args) {
        lays();
        layRoom();
        overlaps();
        meetings();
        leaks();
        netsOfFloors();
        orderOfLinks();
        floorNetRoom();
        clears();
        DUE.end();
    }

    private static PuzzleParts withParts() {
        PuzzleParts x = new PuzzleParts();
        for (String text : TEXTS) {
            Due.part(x, text);
        }
        return x;
    }

    private static void lays() {
        PuzzleParts x = withParts();
        DUE.is("lay(-1, 0, 0)", x.lay(-1, 0, 0), -1);
        DUE.is("lay(11, 0, 0)", x.lay(11, 0, 0), -1);
        DUE.is("lay(11, -1, 99)", x.lay(11, -1, 99), -1);
        DUE.is("lay(0, -1, 0)", x.lay(XOR, -1, 0), -4);
        DUE.is("lay(0, 0, -1)", x.lay(XOR, 0, -1), -4);
        DUE.is("lay(0, 99, -1)", x.lay(XOR, 99, -1), -4);
        DUE.is("lay(0, 10, 0)", x.lay(XOR, 10, 0), -6);
        DUE.is("lay(0, 0, 12)", x.lay(XOR, 0, 12), -6);
        DUE.is("lay(0, greatest, greatest)", x.lay(XOR, Integer.MAX_VALUE, Integer.MAX_VALUE), -6);
        DUE.is("lay(TALL, 0, 9)", x.lay(TALL, 0, 9), -6);
        DUE.is("count(3)", x.count(3), 0);
        DUE.is("lay(0, 9, 11)", x.lay(XOR, 9, 11), 0);
        DUE.is("lay(TALL, 11, 8)", x.lay(TALL, 11, 8), 1);
        DUE.is("lay where one lies", x.lay(XOR, 9, 11), 2);
        DUE.is("count(3)", x.count(3), 3);
        DUE.is("count(11)", x.count(11), 3);
        DUE.is("count(14)", x.count(14), 3);
        DUE.is("count(16)", x.count(16), 4);
    }

    private static void layRoom() {
        PuzzleParts x = withParts();
        for (int i = 0; i < 10; i++) {
            DUE.is("lay(5, " + i + ", 0)", x.lay(DOT, i, 0), i);
        }
        DUE.is("lay of 10", x.lay(DOT, 11, 11), -6);
        DUE.is("lay of 10, below", x.lay(DOT, 11, -1), -4);
        DUE.is("lay of 10, no PART", x.lay(11, 11, 11), -1);
        DUE.is("count(3)", x.count(3), 10);
    }

    private static void overlaps() {
        PuzzleParts x = withParts();
        DUE.is("overlap of none", x.overlap(), -9);
        x.lay(CORNER, 0, 0);
        DUE.is("overlap of one", x.overlap(), -9);
        x.lay(DOT, 0, 0);
        x.lay(DOT, 1, 0);
        x.lay(DOT, 0, 1);
        DUE.is("overlap of BLOCKED CELLS", x.overlap(), -9);
        x.lay(BLOCKED, 0, 1);
        DUE.is("overlap by BLOCKED CELLS", x.overlap(), -9);
        x.lay(PAIR, 5, 5);
        x.lay(XOR, 6, 5);
        DUE.is("overlap of an OPEN CELL and a FACE", x.overlap(), 56);
        x.lay(ONE, 1, 0);
        DUE.is("overlap with 2, less than 5", x.overlap(), 27);
        x.lay(DOT, 1, 1);
        DUE.is("overlap with 0", x.overlap(), 8);
        x.lay(DOT, 1, 1);
        DUE.is("overlap with 0: the first of two", x.overlap(), 8);
        x.clear();
        x.lay(DOT, 1, 1);
        x.lay(DOT, 2, 2);
        x.lay(DOT, 3, 3);
        x.lay(DOT, 2, 2);
        x.lay(DOT, 1, 1);
        DUE.is("overlap: the first number counts", x.overlap(), 4);
        x.clear();
        x.lay(FOUR, 8, 11);
        x.lay(TALL, 11, 8);
        DUE.is("overlap in the corner", x.overlap(), 1);
    }

    private static void meetings() {
        PuzzleParts x = withParts();
        DUE.is("meets on an empty FLOOR", x.meets(0, 0), -1);
        x.lay(CROSS, 4, 4);
        for (int face = 0; face < 4; face++) {
            DUE.is("meets(0, " + face + ")", x.meets(0, face), -9);
        }
        DUE.is("meets(0, 4)", x.meets(0, 4), -1);
        DUE.is("meets(0, -1)", x.meets(0, -1), -1);
        DUE.is("meets(1, 0)", x.meets(1, 0), -1);
        DUE.is("meets(-1, 0)", x.meets(-1, 0), -1);
        x.lay(SAME, 5, 3);
        x.lay(ONE, 3, 5);
        x.lay(TALL, 7, 2);
        x.lay(FOUR, 5, 7);
        x.lay(DOT, 4, 4);
        DUE.is("meets above", x.meets(0, 0), 10);
        DUE.is("meets to the left", x.meets(0, 1), 20);
        DUE.is("meets to the right", x.meets(0, 2), 33);
        DUE.is("meets below", x.meets(0, 3), 40);
        DUE.is("meets(1, 0)", x.meets(1, 0), 0);
        DUE.is("meets(1, 1)", x.meets(1, 1), 31);
        DUE.is("meets(2, 0)", x.meets(2, 0), 1);
        DUE.is("meets(3, 0)", x.meets(3, 0), -9);
        DUE.is("meets(3, 1)", x.meets(3, 1), 11);
        DUE.is("meets(3, 3)", x.meets(3, 3), 2);
        DUE.is("meets(4, 1): an own FACE is none", x.meets(4, 1), -9);
        DUE.is("meets(5, 0) without FACES", x.meets(5, 0), -1);
        x.clear();
        x.lay(ONE, 5, 5);
        x.lay(ONE, 5, 5);
        DUE.is("meets on one CELL", x.meets(0, 0), -9);
        x.lay(ONE, 6, 6);
        DUE.is("meets by a corner", x.meets(0, 0), -9);
        x.lay(SAME, 4, 4);
        DUE.is("meets(0, 0)", x.meets(0, 0), 31);
        x.lay(ONE, 4, 5);
        DUE.is("meets the least LAID one", x.meets(0, 0), 31);
        DUE.is("meets the least LAID one", x.meets(4, 0), 0);
        x.clear();
        Due.part(x, "1#/#0");
        x.lay(ONE, 1, 0);
        x.lay(11, 0, 0);
        x.lay(11, 0, 0);
        DUE.is("meets the least FACE", x.meets(0, 0), 10);
        x.clear();
        x.lay(ONE, 11, 0);
        x.lay(ONE, 0, 1);
        DUE.is("meets across the edge", x.meets(0, 0), -9);
    }

    private static void leaks() {
        PuzzleParts x = withParts();
        DUE.is("leak of none", x.leak(), -9);
        x.lay(XOR, 0, 0);
        DUE.is("leak of one", x.leak(), -9);
        x.lay(XOR, 3, 0);
        DUE.is("leak of two that MEET", x.leak(), -9);
        x.lay(DOT, 6, 0);
        DUE.is("leak of an OPEN CELL beside a FACE", x.leak(), 2);
        x.clear();
        x.lay(ONE, 3, 0);
        x.lay(DOT, 4, 0);
        x.lay(DOT, 5, 0);
        DUE.is("leak of an OPEN CELL beside a FACE", x.leak(), 1);
        x.clear();
        x.lay(DOT, 3, 3);
        x.lay(DOT, 4, 4);
        x.lay(BLOCKED, 3, 2);
        x.lay(BLOCKED, 4, 3);
        DUE.is("no leak by corners and BLOCKED CELLS", x.leak(), -9);
        x.lay(DOT, 3, 3);
        DUE.is("no leak on one CELL", x.leak(), -9);
        x.lay(DOT, 4, 5);
        DUE.is("leak below 1", x.leak(), 1);
        x.lay(ONE, 3, 4);
        DUE.is("leak below 0", x.leak(), 0);
        x.clear();
        x.lay(ONE, 1, 1);
        x.lay(ONE, 2, 1);
        x.lay(ONE, 5, 5);
        DUE.is("no leak where one MEETS one", x.leak(), -9);
        x.lay(ONE, 3, 1);
        DUE.is("leak of a FACE that MEETS two", x.leak(), 1);
        x.clear();
        x.lay(ONE, 1, 0);
        Due.part(x, "1#/#0");
        x.lay(11, 0, 0);
        DUE.is("leak of a FACE that MEETS two of one", x.leak(), 0);
        x.clear();
        x.lay(FOUR, 0, 0);
        x.lay(FOUR, 0, 1);
        DUE.is("no leak of FACES in pairs", x.leak(), -9);
        x.clear();
        x.lay(DOT, 11, 0);
        x.lay(DOT, 0, 1);
        x.lay(DOT, 0, 11);
        DUE.is("no leak across the edge", x.leak(), -9);
        x.clear();
        x.lay(DOT, 0, 5);
        x.lay(ONE, 1, 5);
        DUE.is("leak of an OPEN CELL to the left of a FACE", x.leak(), 0);
        x.clear();
        x.lay(ONE, 0, 5);
        x.lay(DOT, 1, 5);
        DUE.is("leak of an OPEN CELL to the right of a FACE", x.leak(), 1);
        x.clear();
        x.lay(ONE, 0, 5);
        x.lay(DOT, 0, 6);
        DUE.is("leak of an OPEN CELL below a FACE", x.leak(), 1);
        x.clear();
        x.lay(PAIR, 10, 11);
        x.lay(DOT, 11, 10);
        DUE.is("leak in the corner", x.leak(), 0);
    }

    private static void netsOfFloors() {
        PuzzleParts x = withParts();
        DUE.is("floorNet of nothing", x.floorNet(), -3);
        x.lay(XOR, 0, 0);
        x.lay(XOR, 3, 0);
        x.lay(SAME, 6, 0);
        DUE.is("floorNet()", x.floorNet(), 0);
        DUE.is("count(2)", x.count(2), 1);
        DUE.is("count(3)", x.count(3), 3);
        DUE.is("free(0, -1)", x.free(0, -1), 2);
        DUE.is("free(0, 0)", x.free(0, 0), 0);
        DUE.is("free(0, 1)", x.free(0, 1), 21);
        int[] let = {1, 0, 0, 1};
        for (int state = 0; state < 4; state++) {
            DUE.is("netLets(0, " + state + ")", x.netLets(0, state), let[state]);
        }
        DUE.is("link of those that MEET", x.link(0, 1, 0), -3);
        DUE.is("link of the two that are FREE", x.link(0, 0, 21), 3);
        DUE.is("howMany of the ring", x.howMany(0, 0), 2);
        DUE.is("a PIECE more", x.piece(0, DOT), 3);
        x.lay(DOT, 11, 11);
        x.lay(DOT, 11, 11);
        DUE.is("floorNet with OVERLAP", x.floorNet(), -3);
        x.clear();
        x.lay(DOT, 10, 11);
        x.lay(DOT, 11, 11);
        DUE.is("floorNet with LEAK", x.floorNet(), -3);
        x.clear();
        x.lay(PAIR, 4, 4);
        DUE.is("floorNet without FACES", x.floorNet(), 1);
        DUE.is("howMany(1, 0)", x.howMany(1, 0), 1);
        DUE.is("free(1, -1)", x.free(1, -1), 0);
        DUE.is("count(13)", x.count(13), 4);
    }

    /** LINKS go on from how many were made; FACES of all are told in the order of LAID ones. */
    private static void orderOfLinks() {
        PuzzleParts x = withParts();
        x.lay(FOUR, 4, 4);
        x.lay(FOUR, 4, 5);
        x.lay(TALL, 1, 4);
        DUE.is("floorNet()", x.floorNet(), 0);
        DUE.is("free(0, -1)", x.free(0, -1), 4);
        DUE.is("free(0, 0)", x.free(0, 0), 20);
        DUE.is("link(0, 20, 21)", x.link(0, 20, 21), 5);
        DUE.is("link(0, 22, 10)", x.link(0, 22, 10), -3);
        DUE.is("link(0, 22, 23)", x.link(0, 22, 23), 6);
        // both rows as one: 0000, 0011, 1100, 1001, 1111; the column by its own LINKS: 0000, 0011, 1100, 1111
        DUE.is("howMany(0, 0)", x.howMany(0, 0), 5 * 4);
    }

    private static void floorNetRoom() {
        PuzzleParts x = withParts();
        for (int i = 0; i < 9; i++) {
            x.lay(ONE, i % 6 * 2, i / 6 * 2);
        }
        DUE.is("floorNet of 9 PIECES", x.floorNet(), -6);
        x.lay(ONE, 0, 0);
        DUE.is("floorNet of 10 PIECES with OVERLAP", x.floorNet(), -3);
        x.clear();
        for (int i = 0; i < 8; i++) {
            x.lay(ONE, i % 6 * 2, i / 6 * 2);
        }
        DUE.is("floorNet of 8 PIECES", x.floorNet(), 0);
        x.clear();
        int row = Due.part(x, "01234");
        int top = Due.part(x, "0");
        for (int i = 0; i < 4; i++) {
            x.lay(row, i < 2 ? 0 : 6, i % 2);
        }
        x.lay(SAME, 0, 3);
        x.lay(SAME, 0, 4);
        DUE.is("floorNet of 12 LINKS", x.floorNet(), 1);
        DUE.is("link of 12", x.link(1, 40, 41), -3);
        DUE.is("free(1, -1)", x.free(1, -1), 0);
        x.lay(top, 4, 4);
        x.lay(top, 4, 5);
        DUE.is("floorNet of 13 LINKS", x.floorNet(), -6);
        DUE.is("leak of 13 LINKS", x.leak(), -9);
        DUE.is("count(2)", x.count(2), 2);
        x.clear();
        x.lay(DOT, 0, 0);
        for (int i = 2; i < 6; i++) {
            DUE.is("floorNet()", x.floorNet(), i);
        }
        DUE.is("floorNet of 6 NETS", x.floorNet(), -6);
        DUE.is("net() of 6 NETS", x.net(), -6);
        x.clear();
        DUE.is("floorNet of 6 NETS and nothing LAID", x.floorNet(), -3);
        DUE.is("count(13)", x.count(13), 3);
        DUE.is("count(16)", x.count(16), 4);
    }

    private static void clears() {
        PuzzleParts x = withParts();
        x.lay(DOT, 0, 0);
        x.lay(FIVE, 0, 0);
        DUE.is("overlap()", x.overlap(), 1);
        DUE.is("clear()", x.clear(), 2);
        DUE.is("count(3)", x.count(3), 0);
        DUE.is("clear() again", x.clear(), 0);
        DUE.is("overlap()", x.overlap(), -9);
        DUE.is("meets(1, 0)", x.meets(1, 0), -1);
        DUE.is("count(0)", x.count(0), TEXTS.length);
        DUE.is("lay after it", x.lay(FIVE, 0, 0), 0);
        DUE.is("meets(0, 4)", x.meets(0, 4), -9);
    }
}
