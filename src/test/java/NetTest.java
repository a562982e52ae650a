/** Promises 22 to 28: NETS of PIECES and LINKS, what they LET and HOW MANY ways. */
public final class NetTest {
    private static final Due DUE = new Due("NetTest");
    private static final int XOR = 0;
    private static final int SAME = 1;
    private static final int SQUARE = 2;
    private static final int PLAIN = 3;
    private static final int FIVE = 4;
    private static final int ODD = 5;

    public static void main(String[] args) {
        netsAndPieces();
        links();
        linkRoom();
        freeOnes();
        chain();
        loop();
        products();
        modulo();
        manyFree();
        doing();
        DUE.end();
    }

    private static PuzzleParts withParts() {
        PuzzleParts x = new PuzzleParts();
        String[] texts = {"0.1", "01", "012/...", "..", "01234", ".", "0"};
        for (String text : texts) {
            Due.part(x, text);
        }
        return x;
    }

    private static void netsAndPieces() {
        PuzzleParts x = withParts();
        DUE.is("piece without NETS", x.piece(0, XOR), -1);
        for (int i = 0; i < 6; i++) {
            DUE.is("net()", x.net(), i);
        }
        DUE.is("net() of 6", x.net(), -6);
        DUE.is("count(2)", x.count(2), 6);
        DUE.is("piece(6, 0)", x.piece(6, XOR), -1);
        DUE.is("piece(-1, 0)", x.piece(-1, XOR), -1);
        DUE.is("piece(0, 7)", x.piece(0, 7), -1);
        DUE.is("piece(0, -1)", x.piece(0, -1), -1);
        for (int i = 0; i < 8; i++) {
            DUE.is("piece(0, 0)", x.piece(0, XOR), i);
        }
        DUE.is("piece of 8", x.piece(0, XOR), -6);
        DUE.is("piece of 8, no PART", x.piece(0, 7), -1);
        DUE.is("piece(1, 1)", x.piece(1, SAME), 0);
        DUE.is("count(11)", x.count(11), 6);
        DUE.is("count(16)", x.count(16), 2);
        DUE.is("free(0, -1)", x.free(0, -1), 16);
        DUE.is("free(1, -1)", x.free(1, -1), 2);
        DUE.is("free(2, -1)", x.free(2, -1), 0);
    }

    private static void links() {
        PuzzleParts x = withParts();
        DUE.is("link without NETS", x.link(0, 0, 1), -1);
        x.net();
        DUE.is("link without PIECES", x.link(0, 0, 1), -1);
        x.piece(0, XOR);
        x.piece(0, SQUARE);
        int[] none = {2, 9, 13, 20, -1, -10, Integer.MIN_VALUE, Integer.MAX_VALUE};
        for (int told : none) {
            DUE.is("link(0, 0, " + told + ")", x.link(0, 0, told), -1);
            DUE.is("link(0, " + told + ", 0)", x.link(0, told, 0), -1);
            DUE.is("link(0, " + told + ", same)", x.link(0, told, told), -1);
        }
        DUE.is("link(1, 0, 1)", x.link(1, 0, 1), -1);
        DUE.is("link(0, 0, 0)", x.link(0, 0, 0), -3);
        DUE.is("link(0, 12, 0)", x.link(0, 12, 0), 1);
        DUE.is("link(0, 0, 1)", x.link(0, 0, 1), -3);
        DUE.is("link(0, 1, 12)", x.link(0, 1, 12), -3);
        DUE.is("link(0, 12, 0)", x.link(0, 12, 0), -3);
        DUE.is("link(0, 10, 11)", x.link(0, 10, 11), 2);
        DUE.is("count(13)", x.count(13), 4);
        DUE.is("count(11)", x.count(11), 3 + 3 * none.length);
    }

    private static void linkRoom() {
        PuzzleParts x = withParts();
        x.net();
        for (int i = 0; i < 6; i++) {
            x.piece(0, FIVE);
        }
        for (int i = 0; i < 12; i++) {
            // the last LINK is of FACE 0, whose STATE may have to be another than that of the first FREE one
            int face = i < 10 ? i % 5 : 11 - i;
            int a = 10 * (i / 5) + face;
            int b = 10 * (3 + i / 5) + face;
            DUE.is("link(0, " + a + ", " + b + ")", x.link(0, a, b), i + 1);
        }
        DUE.is("link of 12", x.link(0, 23, 53), -6);
        DUE.is("link of 12, one in a LINK", x.link(0, 23, 0), -3);
        DUE.is("link of 12, both are one", x.link(0, 23, 23), -3);
        DUE.is("link of 12, none", x.link(0, 23, 60), -1);
        DUE.is("free(0, -1)", x.free(0, -1), 6);
        DUE.is("free(0, 0)", x.free(0, 0), 22);
        DUE.is("free(0, 5)", x.free(0, 5), 54);
        DUE.is("free(0, 6)", x.free(0, 6), -9);
        // what of 01234 is let: the zeros stand in runs of even length
        for (int state = 0; state < 64; state++) {
            int want = isLetByRows(state) ? 1 : 0;
            DUE.is("netLets(0, " + state + ") of 12 LINKS", x.netLets(0, state), want);
        }
        DUE.is("netLets(0, 64)", x.netLets(0, 64), -1);
        DUE.is("count(16)", x.count(16), 1);
    }

    /** Six of 01234 in pairs: two pairs are of one STATE whole, the third one by its FACES 0 and 1 (22, 23, 24; 52 ..). */
    private static boolean isLetByRows(int state) {
        for (int both = 0; both < 4; both++) {
            if (inPairs(both | (state & 7) << 2) && inPairs(both | (state >> 3) << 2)) {
                return true;
            }
        }
        return false;
    }

    private static boolean inPairs(int state) {
        int run = 0;
        for (int i = 0; i <= 5; i++) {
            boolean ends = i == 5 || (state >> i & 1) != 0;
            if (ends && run % 2 != 0) {
                return false;
            }
            run = ends ? 0 : run + 1;
        }
        return true;
    }

    private static void freeOnes() {
        PuzzleParts x = withParts();
        DUE.is("free without NETS", x.free(0, -1), -1);
        x.net();
        DUE.is("free(0, -1)", x.free(0, -1), 0);
        DUE.is("free(0, 0)", x.free(0, 0), -9);
        x.piece(0, SQUARE);
        x.piece(0, PLAIN);
        x.piece(0, XOR);
        x.link(0, 1, 20);
        DUE.is("free(0, -1)", x.free(0, -1), 3);
        DUE.is("free(0, 0)", x.free(0, 0), 0);
        DUE.is("free(0, 1)", x.free(0, 1), 2);
        DUE.is("free(0, 2)", x.free(0, 2), 21);
        DUE.is("free(0, 3)", x.free(0, 3), -9);
        DUE.is("free(0, greatest)", x.free(0, Integer.MAX_VALUE), -9);
        DUE.is("free(0, -2)", x.free(0, -2), -1);
        DUE.is("free(0, least)", x.free(0, Integer.MIN_VALUE), -1);
        DUE.is("free(1, 0)", x.free(1, 0), -1);
        DUE.is("free(-1, -2)", x.free(-1, -2), -1);
        DUE.is("count(11)", x.count(11), 5);
    }

    /** Three that turn the STATE round make one that does. */
    private static void chain() {
        PuzzleParts x = withParts();
        x.net();
        for (int i = 0; i < 3; i++) {
            x.piece(0, XOR);
        }
        x.link(0, 1, 10);
        x.link(0, 20, 11);
        int[] let = {0, 1, 1, 0};
        for (int state = 0; state < 4; state++) {
            DUE.is("netLets(0, " + state + ")", x.netLets(0, state), let[state]);
            DUE.is("howMany(0, " + state + ")", x.howMany(0, state), let[state]);
        }
        DUE.is("netLets(0, 4)", x.netLets(0, 4), -1);
        DUE.is("netLets(0, -1)", x.netLets(0, -1), -1);
        DUE.is("howMany(0, 4)", x.howMany(0, 4), -1);
        DUE.is("howMany(0, least)", x.howMany(0, Integer.MIN_VALUE), -1);
        DUE.is("netLets(1, 0)", x.netLets(1, 0), -1);
        DUE.is("howMany(-1, 0)", x.howMany(-1, 0), -1);
        x.piece(0, ODD);
        DUE.is("netLets with a PIECE that LETS nothing", x.netLets(0, 1), 0);
        DUE.is("howMany with a PIECE that LETS nothing", x.howMany(0, 1), 0);
    }

    /** A LINK within one PIECE: both its FACES are of one STATE. */
    private static void loop() {
        PuzzleParts x = withParts();
        x.net();
        x.piece(0, XOR);
        x.link(0, 0, 1);
        DUE.is("netLets of a turn in itself", x.netLets(0, 0), 0);
        DUE.is("howMany of a turn in itself", x.howMany(0, 0), 0);
        x.net();
        x.piece(1, SQUARE);
        x.link(1, 2, 0);
        // FACES 0 and 2 jut out together or not at all, FACE 1 is FREE
        for (int state = 0; state < 2; state++) {
            int sum = x.ways(SQUARE, 2 * state) + x.ways(SQUARE, 2 * state + 5);
            DUE.is("howMany(1, " + state + ")", x.howMany(1, state), sum);
            DUE.is("netLets(1, " + state + ")", x.netLets(1, state), sum > 0 ? 1 : 0);
        }
        DUE.is("howMany(1, 0)", x.howMany(1, 0), 3);
    }

    private static void products() {
        PuzzleParts x = withParts();
        x.net();
        DUE.is("howMany without PIECES", x.howMany(0, 0), 1);
        DUE.is("netLets without PIECES", x.netLets(0, 0), 1);
        x.piece(0, SQUARE);
        x.piece(0, SQUARE);
        DUE.is("howMany of two", x.howMany(0, 0), 9);
        DUE.is("howMany of two", x.howMany(0, 3), 3);
        DUE.is("howMany of two", x.howMany(0, 1), 0);
        DUE.is("howMany of two", x.howMany(0, 0b011011), 1);
        x.link(0, 0, 10);
        x.link(0, 1, 11);
        DUE.is("howMany summed over LINKS", x.howMany(0, 0), 10);
        x.piece(0, PLAIN);
        DUE.is("howMany with one of one way", x.howMany(0, 0), 10);
    }

    private static void modulo() {
        PuzzleParts x = new PuzzleParts();
        Due.part(x, "...../...../...../.....");
        x.net();
        long product = 1;
        for (int i = 0; i < 8; i++) {
            x.piece(0, 0);
            product = product * 95 % 1000000007L;
            DUE.is("howMany of " + (i + 1) + " with 95 ways", x.howMany(0, 0), product);
            DUE.is("netLets of " + (i + 1) + " with 95 ways", x.netLets(0, 0), 1);
        }
    }

    private static void manyFree() {
        PuzzleParts x = withParts();
        Due.formula(x, "0");
        Due.formula(x, "1");
        x.net();
        x.piece(0, FIVE);
        x.piece(0, FIVE);
        DUE.is("netLets of 10 FREE", x.netLets(0, 1023), 1);
        DUE.is("netLets of 10 FREE", x.netLets(0, 1 << 4 | 1 << 5), 1);
        DUE.is("netLets of 10 FREE", x.netLets(0, 1 << 3 | 1 << 5), 0);
        DUE.is("netLets of 10 FREE", x.netLets(0, 1024), -1);
        DUE.is("netDoes of 10 FREE", x.netDoes(0, 0), 0);
        x.piece(0, SAME);
        DUE.is("netLets of 12 FREE", x.netLets(0, 0), -3);
        DUE.is("netLets of 12 FREE", x.netLets(0, -1), -3);
        DUE.is("howMany of 12 FREE", x.howMany(0, 0), -3);
        DUE.is("howMany of 12 FREE", x.howMany(0, 9999), -3);
        DUE.is("netDoes of 12 FREE", x.netDoes(0, 1), 0);
        DUE.is("netLets(1, 0)", x.netLets(1, 0), -1);
        DUE.is("free(0, -1)", x.free(0, -1), 12);
        DUE.is("free(0, 11)", x.free(0, 11), 21);
        x.link(0, 0, 20);
        DUE.is("howMany of 10 FREE", x.howMany(0, 1023), 1);
        DUE.is("count(13)", x.count(13), 4);
        x.net();
        x.piece(1, FIVE);
        x.piece(1, FIVE);
        x.piece(1, 6);
        DUE.is("netLets of 11 FREE", x.netLets(1, 0), -3);
        DUE.is("howMany of 11 FREE", x.howMany(1, 0), -3);
    }

    private static void doing() {
        PuzzleParts x = withParts();
        Due.formula(x, "a&!b|!a&b");
        Due.formula(x, "!(a&!b|!a&b)");
        Due.formula(x, "1");
        Due.formula(x, "0");
        Due.formula(x, "c");
        DUE.is("netDoes without NETS", x.netDoes(0, 0), -1);
        x.net();
        DUE.is("netDoes(0, 2) without PIECES", x.netDoes(0, 2), 1);
        DUE.is("netDoes(0, 3) without PIECES", x.netDoes(0, 3), 0);
        DUE.is("netDoes(0, 4) without PIECES", x.netDoes(0, 4), 0);
        x.piece(0, XOR);
        DUE.is("netDoes(0, 0)", x.netDoes(0, 0), 1);
        DUE.is("netDoes(0, 1)", x.netDoes(0, 1), 0);
        x.piece(0, XOR);
        x.link(0, 10, 0);
        DUE.is("netDoes(0, 0)", x.netDoes(0, 0), 0);
        DUE.is("netDoes(0, 1)", x.netDoes(0, 1), 1);
        DUE.is("netDoes(0, 5)", x.netDoes(0, 5), -1);
        DUE.is("netDoes(0, -1)", x.netDoes(0, -1), -1);
        DUE.is("netDoes(1, 0)", x.netDoes(1, 0), -1);
        x.piece(0, ODD);
        DUE.is("netDoes(0, 3) with a PIECE that LETS nothing", x.netDoes(0, 3), 1);
        DUE.is("netDoes(0, 4) with a PIECE that LETS nothing", x.netDoes(0, 4), 1);
        x.net();
        x.piece(1, FIVE);
        DUE.is("netDoes(1, 2) of 5 FREE", x.netDoes(1, 2), 0);
        Due.formula(x, "a&!b&!c&!d&!e|b&a&!c&!d&e");
        DUE.is("netDoes(1, 5) of 5 FREE", x.netDoes(1, 5), 0);
        x.net();
        x.piece(2, FIVE);
        x.piece(2, ODD);
        DUE.is("netDoes(2, 3) of 5 FREE", x.netDoes(2, 3), 1);
        x.piece(2, PLAIN);
        DUE.is("netDoes(2, 3) of 5 FREE", x.netDoes(2, 3), 1);
        x.piece(2, XOR);
        DUE.is("netDoes(2, 3) of 7 FREE", x.netDoes(2, 3), 0);
        DUE.is("count(11)", x.count(11), 4);
    }
}
