/** Boundary cases of NETS (IV.; promises 22 to 28), a sentence each. */
public final class EdgesOfNetsTest {
    private static final Due DUE = new Due("EdgesOfNetsTest");
    private static final int LEAST = Integer.MIN_VALUE;
    private static final int GREATEST = Integer.MAX_VALUE;
    /** Of many PIECES: the last one is of FACES whose STATE may be another than that of the first FREE one. */
    private static final int[][] MANY_LINKS = {{3, 30}, {31, 4}, {10, 32}, {11, 40}, {12, 41}, {42, 14}, {20, 50},
        {51, 21}, {33, 34}, {60, 52}, {61, 70}, {24, 63}};
    /** PARTS by how many FACES they have: FACES 0 to 5, then one that turns the STATE round, and one that LETS none. */
    private static final String[] TEXTS = {"..", "0", "01", "012", "0123", "01234", "0.1", "."};
    private static final int PLAIN = 0;
    private static final int ONE = 1;
    private static final int TWO = 2;
    private static final int FOUR = 4;
    private static final int FIVE = 5;
    private static final int ODD = 6;
    private static final int NEVER = 7;

    public static void main(String[] args) {
        sixNets();
        eightPieces();
        pieceRefused();
        facesTold();
        oneLinkEach();
        ofTheSame();
        twelveLinks();
        linkRefusedInOrder();
        freeEnds();
        freeInOrder();
        tenFree();
        stateRefusedInOrder();
        statesOfFree();
        someStatesOfOthers();
        productsSummed();
        modulo();
        moduloNothing();
        emptyNet();
        fiveFree();
        lettersOfNone();
        doesRefused();
        manyOfAll();
        DUE.end();
    }

    private static PuzzleParts withParts() {
        PuzzleParts x = new PuzzleParts();
        for (String text : TEXTS) {
            Due.part(x, text);
        }
        return x;
    }

    /** One NET of these PIECES. */
    private static PuzzleParts with(int... pieces) {
        PuzzleParts x = withParts();
        x.net();
        for (int part : pieces) {
            x.piece(0, part);
        }
        return x;
    }

    /** "NETS have numbers from 0 on (6 at most)"; "-6 6". */
    private static void sixNets() {
        PuzzleParts x = withParts();
        for (int net = 0; net < 6; net++) {
            DUE.is("free(" + net + ", -1) ahead", x.free(net, -1), -1);
            DUE.is("net() of " + net, x.net(), net);
            DUE.is("free(" + net + ", -1)", x.free(net, -1), 0);
        }
        DUE.is("net() of 6", x.net(), -6);
        DUE.is("net() of 6 again", x.net(), -6);
        DUE.is("free(6, -1)", x.free(6, -1), -1);
        DUE.is("count(2)", x.count(2), 6);
        DUE.is("count(16)", x.count(16), 2);
    }

    /** "PIECES (8 at most)": 8 of each NET; "each a PART", the same one too. */
    private static void eightPieces() {
        PuzzleParts x = withParts();
        Edge.fillNets(x, 6);
        for (int net = 0; net < 6; net++) {
            for (int piece = 0; piece < 8; piece++) {
                DUE.is("piece(" + net + ", 1)", x.piece(net, ONE), piece);
                DUE.is("free(" + net + ", -1)", x.free(net, -1), piece + 1);
            }
            DUE.is("piece of 8", x.piece(net, ONE), -6);
            DUE.is("piece of 8, no PART", x.piece(net, TEXTS.length), -1);
            DUE.is("free(" + net + ", -1)", x.free(net, -1), 8);
        }
        DUE.is("piece(6, 1)", x.piece(6, ONE), -1);
    }

    /** "-1 either; -6 8", and PART 23, the last there can be. */
    private static void pieceRefused() {
        PuzzleParts empty = new PuzzleParts();
        DUE.is("piece(0, 0) without both", empty.piece(0, 0), -1);
        empty.net();
        DUE.is("piece(0, 0) without PARTS", empty.piece(0, 0), -1);
        PuzzleParts x = withParts();
        DUE.is("piece(0, 0) without NETS", x.piece(0, 0), -1);
        x.net();
        for (int none : new int[] {-1, 8, 24, LEAST, GREATEST}) {
            DUE.is("piece(0, " + none + ")", x.piece(0, none), -1);
            DUE.is("piece(" + none + ", 0)", x.piece(none, 0), -1);
        }
        DUE.is("piece(1, 0)", x.piece(1, 0), -1);
        DUE.is("piece(0, 7)", x.piece(0, 7), 0);
        Edge.fillParts(x, 24);
        DUE.is("piece(0, 23)", x.piece(0, 23), 1);
        DUE.is("piece(0, 24)", x.piece(0, 24), -1);
    }

    /** "(each told as 10 times PIECE and FACE)"; "-1 any": what is there is told by -3, both are one. */
    private static void facesTold() {
        int[] pieces = {PLAIN, ONE, FIVE, TWO, NEVER, FOUR};
        int[] faces = {0, 1, 5, 2, 0, 4};
        PuzzleParts x = with(pieces);
        for (int told = -12; told <= 90; told++) {
            boolean is = told >= 0 && told / 10 < 6 && told % 10 < faces[told / 10];
            DUE.is("link(0, " + told + ", " + told + ")", x.link(0, told, told), is ? -3 : -1);
            DUE.is("link(0, " + told + ", 6)", x.link(0, told, 6), -1);
            DUE.is("link(0, 60, " + told + ")", x.link(0, 60, told), -1);
        }
        for (int none : new int[] {LEAST, GREATEST, 2147483640, -2147483640, 1000, 320, 330}) {
            DUE.is("link(0, " + none + ", 10)", x.link(0, none, 10), -1);
            DUE.is("link(0, 10, " + none + ")", x.link(0, 10, none), -1);
        }
        for (int none : new int[] {-1, 1, 6, LEAST, GREATEST}) {
            DUE.is("link(" + none + ", 10, 20)", x.link(none, 10, 20), -1);
        }
        DUE.is("link(0, 10, 24)", x.link(0, 10, 24), 1);
        for (int told = 0; told < 90; told++) {
            PuzzleParts most = with(FIVE, FIVE, FIVE, FIVE, FIVE, FIVE, FIVE, FIVE);
            boolean is = told < 80 && told % 10 < 5;
            int other = told == 0 ? 74 : 0;
            DUE.is("link(0, " + told + ", ..) of 8 PIECES", most.link(0, told, other), is ? 1 : -1);
            DUE.is("link(0, .., " + told + ") of 8 PIECES", most.link(0, other, told), is ? -3 : -1);
            DUE.is("free(0, -1) of 8 PIECES", most.free(0, -1), is ? 38 : 40);
            DUE.is("free(0, 37) of 8 PIECES", most.free(0, 37), !is ? 72 : told == 74 || told == 0 ? 73 : 74);
        }
        DUE.is("link without NETS", withParts().link(0, 10, 24), -1);
        DUE.is("link without PIECES", with().link(0, 0, 1), -1);
    }

    /** "(unlike ones; each FACE in one LINK at most)"; "-3 one is in a LINK, or both are one". */
    private static void oneLinkEach() {
        PuzzleParts x = with(TWO, TWO, TWO);
        DUE.is("link(0, 0, 0)", x.link(0, 0, 0), -3);
        DUE.is("link(0, 0, 10)", x.link(0, 0, 10), 1);
        DUE.is("the same again", x.link(0, 0, 10), -3);
        DUE.is("the same, the other way", x.link(0, 10, 0), -3);
        DUE.is("the first in a LINK", x.link(0, 0, 20), -3);
        DUE.is("the second in a LINK", x.link(0, 20, 0), -3);
        DUE.is("what was second, first", x.link(0, 10, 21), -3);
        DUE.is("what was second, second", x.link(0, 21, 10), -3);
        DUE.is("both are one, in a LINK", x.link(0, 10, 10), -3);
        DUE.is("two FREE ones", x.link(0, 1, 11), 2);
        DUE.is("free(0, -1)", x.free(0, -1), 2);
        DUE.is("count(13)", x.count(13), 8);
    }

    /** "of a FACE of one to a FACE of another or the same". */
    private static void ofTheSame() {
        PuzzleParts x = with(FIVE);
        DUE.is("link of one PIECE", x.link(0, 0, 4), 1);
        DUE.is("link of one PIECE", x.link(0, 3, 1), 2);
        DUE.is("free(0, -1)", x.free(0, -1), 1);
        DUE.is("free(0, 0)", x.free(0, 0), 2);
        // zeros of 01234 stand in runs of even length: FACES 0 and 4 are of one STATE, 1 and 3, too
        DUE.is("netLets(0, 0)", x.netLets(0, 0), 0);
        DUE.is("netLets(0, 1)", x.netLets(0, 1), 1);
        DUE.is("howMany(0, 1): 11111, 00100", x.howMany(0, 1), 2);
        DUE.is("netLets(0, 2)", x.netLets(0, 2), -1);
    }

    /** "LINKS (12 at most)": 11, 12 and 13. */
    private static void twelveLinks() {
        PuzzleParts x = with(FIVE, FIVE, FIVE, FIVE, FIVE, FIVE, FIVE, FIVE);
        for (int i = 0; i < 12; i++) {
            int face = i % 5;
            DUE.is("link " + (i + 1), x.link(0, 10 * (i / 5) + face, 10 * (5 + i / 5) + face), i + 1);
        }
        DUE.is("free(0, -1)", x.free(0, -1), 16);
        DUE.is("a 13th", x.link(0, 30, 31), -6);
        DUE.is("a 13th of one PIECE in LINKS", x.link(0, 22, 23), -6);
        DUE.is("a 13th, in a LINK", x.link(0, 0, 30), -3);
        DUE.is("a 13th, both are one", x.link(0, 30, 30), -3);
        DUE.is("a 13th, no FACE", x.link(0, 30, 35), -1);
        DUE.is("a 13th, no NET", x.link(1, 30, 31), -1);
        DUE.is("free(0, -1)", x.free(0, -1), 16);
        DUE.is("netLets(0, 0): 16 are FREE", x.netLets(0, 0), -3);
        x.net();
        x.piece(1, TWO);
        DUE.is("the first LINK of another NET", x.link(1, 0, 1), 1);
    }

    /** "-1 any; -3 one is in a LINK, or both are one": in this order. */
    private static void linkRefusedInOrder() {
        PuzzleParts x = with(TWO);
        x.link(0, 0, 1);
        DUE.is("no NET, ahead of STATE", x.link(1, 0, 1), -1);
        DUE.is("no second FACE, ahead of STATE", x.link(0, 0, 2), -1);
        DUE.is("no first FACE, ahead of STATE", x.link(0, 2, 0), -1);
        DUE.is("both are one that is not there", x.link(0, 2, 2), -1);
        DUE.is("count(11)", x.count(11), 4);
        DUE.is("count(13)", x.count(13), 0);
    }

    /** "-9 none such; how many (i -1). -1 (i below -1, too)". */
    private static void freeEnds() {
        PuzzleParts x = with(TWO, ONE);
        int[] due = {-1, -1, 3, 0, 1, 10, -9, -9};
        for (int i = -3; i <= 4; i++) {
            DUE.is("free(0, " + i + ")", x.free(0, i), due[i + 3]);
        }
        DUE.is("free(0, least)", x.free(0, LEAST), -1);
        DUE.is("free(0, greatest)", x.free(0, GREATEST), -9);
        for (int none : new int[] {-1, 1, 6, LEAST, GREATEST}) {
            DUE.is("free(" + none + ", -1)", x.free(none, -1), -1);
            DUE.is("free(" + none + ", -2)", x.free(none, -2), -1);
            DUE.is("free(" + none + ", 9)", x.free(none, 9), -1);
        }
        DUE.is("count(11)", x.count(11), 3 + 15);
        x.link(0, 0, 10);
        x.piece(0, PLAIN);
        DUE.is("free(0, -1) of one", x.free(0, -1), 1);
        DUE.is("free(0, 0)", x.free(0, 0), 1);
        DUE.is("free(0, 1)", x.free(0, 1), -9);
        PuzzleParts none = with(TWO, PLAIN);
        none.link(0, 0, 1);
        DUE.is("free(0, -1) of none", none.free(0, -1), 0);
        DUE.is("free(0, 0) of none", none.free(0, 0), -9);
    }

    /** "in order of PIECES, then FACES (10 times PIECE and FACE)". */
    private static void freeInOrder() {
        PuzzleParts x = with(FIVE, PLAIN, TWO, FIVE, FIVE, FIVE, ONE, FIVE);
        x.link(0, 71, 0);
        x.link(0, 4, 20);
        x.link(0, 32, 34);
        int[] due = {1, 2, 3, 21, 30, 31, 33, 40, 41, 42, 43, 44, 50, 51, 52, 53, 54, 60, 70, 72, 73, 74};
        DUE.is("free(0, -1)", x.free(0, -1), due.length);
        for (int i = 0; i < due.length; i++) {
            DUE.is("free(0, " + i + ")", x.free(0, i), due[i]);
        }
        DUE.is("free(0, " + due.length + ")", x.free(0, due.length), -9);
    }

    /** "(10 at most, else -3 where STATES of them are told)": 9, 10, 11, and 10 again by a LINK. */
    private static void tenFree() {
        PuzzleParts nine = with(FIVE, FOUR);
        DUE.is("netLets of 9 FREE", nine.netLets(0, 511), 1);
        DUE.is("netLets of 9 FREE, 512", nine.netLets(0, 512), -1);
        PuzzleParts x = with(FIVE, FIVE);
        DUE.is("netLets of 10 FREE", x.netLets(0, 1023), 1);
        DUE.is("howMany of 10 FREE", x.howMany(0, 1023), 1);
        DUE.is("netLets of 10 FREE, 1024", x.netLets(0, 1024), -1);
        DUE.is("howMany of 10 FREE, 1024", x.howMany(0, 1024), -1);
        x.piece(0, ONE);
        DUE.is("netLets of 11 FREE", x.netLets(0, 0), -3);
        DUE.is("howMany of 11 FREE", x.howMany(0, 0), -3);
        DUE.is("free of 11 FREE", x.free(0, -1), 11);
        DUE.is("free of 11 FREE, the last", x.free(0, 10), 20);
        x.piece(0, ONE);
        DUE.is("netLets of 12 FREE", x.netLets(0, 0), -3);
        x.link(0, 20, 30);
        DUE.is("free of 12 less a LINK", x.free(0, -1), 10);
        DUE.is("netLets of 12 less a LINK", x.netLets(0, 1023), 1);
        DUE.is("howMany of 12 less a LINK", x.howMany(0, 1023), 1);
        DUE.is("howMany of 12 less a LINK", x.howMany(0, 0b11111_10000), 1);
        DUE.is("howMany of 12 less a LINK", x.howMany(0, 0b00001_01000), 0);
    }

    /** "-1 NET; -3 more than 10 are FREE; -1 STATE"; "Refused as netLets()". */
    private static void stateRefusedInOrder() {
        PuzzleParts x = with(FIVE, FIVE, ONE);
        x.net();
        x.piece(1, TWO);
        int[] states = {-1, 4, 2048, LEAST, GREATEST};
        for (int state : states) {
            DUE.is("netLets(2, " + state + ")", x.netLets(2, state), -1);
            DUE.is("howMany(-1, " + state + ")", x.howMany(-1, state), -1);
            DUE.is("netLets(0, " + state + ") of 11 FREE", x.netLets(0, state), -3);
            DUE.is("howMany(0, " + state + ") of 11 FREE", x.howMany(0, state), -3);
            DUE.is("netLets(1, " + state + ")", x.netLets(1, state), -1);
            DUE.is("howMany(1, " + state + ")", x.howMany(1, state), -1);
        }
        DUE.is("count(11)", x.count(11), 4 * states.length);
        DUE.is("count(13)", x.count(13), 2 * states.length);
        for (int none : new int[] {-1, 2, 6, LEAST, GREATEST}) {
            DUE.is("netLets(" + none + ", 0)", x.netLets(none, 0), -1);
            DUE.is("howMany(" + none + ", 0)", x.howMany(none, 0), -1);
        }
        for (int state = 0; state < 4; state++) {
            DUE.is("netLets(1, " + state + ")", x.netLets(1, state), state % 3 == 0 ? 1 : 0);
        }
    }

    /** "LETS of a NET in a STATE of FREE ones (bits)": the first FREE one is the lowest bit. */
    private static void statesOfFree() {
        PuzzleParts x = with(ONE, PLAIN, TWO, ODD);
        // the first one must jut out, both of the second or none, just one of the third
        for (int state = 0; state < 32; state++) {
            boolean both = (state >> 1 & 1) == (state >> 2 & 1);
            boolean odd = (state >> 3 & 1) != (state >> 4 & 1);
            int due = (state & 1) != 0 && both && odd ? 1 : 0;
            DUE.is("netLets(0, " + state + ")", x.netLets(0, state), due);
            DUE.is("howMany(0, " + state + ")", x.howMany(0, state), due);
        }
        DUE.is("netLets(0, 32)", x.netLets(0, 32), -1);
    }

    /** "some STATES of all others with which each PIECE is LET": none, one, and both STATES of a LINK. */
    private static void someStatesOfOthers() {
        PuzzleParts none = with(TWO, ODD);
        none.link(0, 0, 10);
        none.link(0, 1, 11);
        DUE.is("netLets by no STATE", none.netLets(0, 0), 0);
        DUE.is("howMany by no STATE", none.howMany(0, 0), 0);
        PuzzleParts one = with(ONE, TWO);
        one.link(0, 0, 10);
        DUE.is("netLets by STATE 1 of a LINK", one.netLets(0, 1), 1);
        DUE.is("netLets by no STATE of a LINK", one.netLets(0, 0), 0);
        PuzzleParts both = with(TWO, TWO);
        both.link(0, 0, 11);
        both.link(0, 1, 10);
        DUE.is("netLets by both STATES", both.netLets(0, 0), 1);
        DUE.is("howMany by both STATES", both.howMany(0, 0), 2);
        PuzzleParts never = with(TWO, NEVER, TWO);
        DUE.is("netLets with one that is never LET", never.netLets(0, 0), 0);
        DUE.is("howMany with one that is never LET", never.howMany(0, 15), 0);
    }

    /** "the product of WAYS of PIECES summed over STATES of LINKS". */
    private static void productsSummed() {
        PuzzleParts x = new PuzzleParts();
        Due.part(x, "0..../...../...../....1");
        long zero = x.ways(0, 0);
        long three = x.ways(0, 3);
        DUE.is("ways in STATE 0", zero, 95);
        DUE.is("ways in STATE 1", x.ways(0, 1), 0);
        x.net();
        long zeros = 1;
        long threes = 1;
        for (int piece = 0; piece < 4; piece++) {
            x.piece(0, 0);
            zeros *= zero;
            threes *= three;
        }
        for (int piece = 0; piece < 3; piece++) {
            x.link(0, 10 * piece + 1, 10 * piece + 10);
        }
        DUE.is("howMany of a chain in STATE 0", x.howMany(0, 0), zeros);
        DUE.is("howMany of a chain in STATE 3", x.howMany(0, 3), threes);
        DUE.is("howMany of a chain in STATE 1", x.howMany(0, 1), 0);
        x.link(0, 31, 0);
        DUE.is("howMany of a ring", x.howMany(0, 0), zeros + threes);
    }

    /** "modulo 1000000007": a little below it (1000000000) and a little above it (1000016500). */
    private static void modulo() {
        String[] below = {"#..##/#..../...../.#..#", "....#/#..../...../.....", "...../..##./...../.....",
            "...../...../#..../..#.."};
        int[] waysBelow = {8, 16, 20, 25};
        PuzzleParts x = new PuzzleParts();
        for (int i = 0; i < 4; i++) {
            Due.part(x, below[i]);
            DUE.is("ways of " + below[i], x.ways(i, 0), waysBelow[i]);
        }
        x.net();
        for (int part : new int[] {0, 1, 2, 3, 3, 3, 3}) {
            x.piece(0, part);
        }
        DUE.is("howMany just below", x.howMany(0, 0), 1000000000);
        x.piece(0, 3);
        DUE.is("howMany beyond the largest int", x.howMany(0, 0), 25000000000L % 1000000007L);
        String[] above = {"...../....#/...../.#...", "...../...#./...#./.....", "#...#/#...#/...../.....",
            "..#../...../...../..#.."};
        int[] waysAbove = {7, 17, 28, 35};
        PuzzleParts y = new PuzzleParts();
        for (int i = 0; i < 4; i++) {
            Due.part(y, above[i]);
            DUE.is("ways of " + above[i], y.ways(i, 0), waysAbove[i]);
        }
        y.net();
        for (int part : new int[] {0, 0, 1, 2, 3, 3, 3}) {
            y.piece(0, part);
        }
        DUE.is("howMany just above", y.howMany(0, 0), 1000016500 - 1000000007);
        DUE.is("netLets just above", y.netLets(0, 0), 1);
    }

    /** A ring whose sum is 60 times 1000000007: HOW MANY is 0, but it is LET. */
    private static void moduloNothing() {
        String[] texts = {"..#1./.0.../...../....#", "#..#./..0../...../.1...", ".1.../.0.../#..../..#..",
            "...../0..../1##../.....", "...../....0/#..../..#1.", "#..#./..0../...../.1...", "0..../...../#1.../..#..",
            "..0../...../.1.../..##."};
        int[] zeros = {30, 16, 25, 20, 25, 16, 25, 25};
        int[] threes = {1, 1, 7, 1, 5, 1, 6, 2};
        PuzzleParts x = new PuzzleParts();
        Due.formula(x, "1");
        Due.formula(x, "0");
        x.net();
        long sum = 1;
        long other = 1;
        for (int i = 0; i < 8; i++) {
            Due.part(x, texts[i]);
            DUE.is("ways in STATE 0 of " + texts[i], x.ways(i, 0), zeros[i]);
            DUE.is("ways in STATE 3 of " + texts[i], x.ways(i, 3), threes[i]);
            DUE.is("lets of " + texts[i], x.lets(i), 9);
            x.piece(0, i);
            sum *= zeros[i];
            other *= threes[i];
        }
        DUE.is("the sum of both STATES", (sum + other) % 1000000007L, 0);
        for (int i = 0; i < 7; i++) {
            DUE.is("link", x.link(0, 10 * i + 1, 10 * i + 10), i + 1);
        }
        DUE.is("howMany of the chain in STATE 0", x.howMany(0, 0), sum % 1000000007L);
        DUE.is("howMany of the chain in STATE 3", x.howMany(0, 3), other);
        x.link(0, 71, 0);
        DUE.is("howMany of the ring", x.howMany(0, 0), 0);
        DUE.is("netLets of the ring", x.netLets(0, 0), 1);
        DUE.is("netDoes(0, 1)", x.netDoes(0, 0), 1);
        DUE.is("netDoes(0, 0)", x.netDoes(0, 1), 0);
    }

    /** "A NET without PIECES": none are FREE, and none is not LET. */
    private static void emptyNet() {
        PuzzleParts x = with();
        Due.formula(x, "1");
        Due.formula(x, "0");
        Due.formula(x, "a");
        DUE.is("free(0, -1)", x.free(0, -1), 0);
        DUE.is("free(0, 0)", x.free(0, 0), -9);
        DUE.is("netLets(0, 0)", x.netLets(0, 0), 1);
        DUE.is("howMany(0, 0)", x.howMany(0, 0), 1);
        DUE.is("netLets(0, 1)", x.netLets(0, 1), -1);
        DUE.is("howMany(0, -1)", x.howMany(0, -1), -1);
        DUE.is("netDoes(0, 1)", x.netDoes(0, 0), 1);
        DUE.is("netDoes(0, 0)", x.netDoes(0, 1), 0);
        DUE.is("netDoes(0, a)", x.netDoes(0, 2), 0);
    }

    private static void does(String formula, int want, int... pieces) {
        PuzzleParts x = with(pieces);
        Due.formula(x, formula);
        DUE.is("netDoes of " + formula, x.netDoes(0, 0), want);
    }

    /** "if it has 5 FREE FACES or fewer": 4, 5 and 6; "just those STATES": one more or less is too much. */
    private static void fiveFree() {
        does("(!a&!b|a&b)&(!c&!d|c&d)", 1, TWO, TWO);
        String five = "(!a&!b|a&b)&(c&!d|!c&d)&e";
        does(five, 1, TWO, ODD, ONE);
        does(five + "|a&b&c&d&e", 0, TWO, ODD, ONE);
        does(five + "&(a|c)", 0, TWO, ODD, ONE);
        does(five + "|!a&!b&!c&!d&!e", 0, TWO, ODD, ONE);
        does("a&b&c&d&e", 1, ONE, ONE, ONE, ONE, ONE);
        does("a&b&c&d", 0, ONE, ONE, ONE, ONE, ONE);
        does("0", 0, ONE, ONE, ONE, ONE, ONE);
        does("0", 1, ONE, ONE, ONE, ONE, ONE, NEVER);
        does("0", 0, ONE, ONE, ONE, ONE, ONE, ONE, NEVER);
        does("a&b&c&d&e", 0, ONE, ONE, ONE, ONE, ONE, ONE);
        does("0", 0, FIVE, FIVE, ONE, NEVER);
        does("0", 0, FIVE, FIVE, FIVE, FIVE, FIVE, FIVE, FIVE, NEVER);
        PuzzleParts x = with(ONE, ONE, ONE, ONE, ONE, TWO, TWO);
        Due.formula(x, "a&b&c&d&e");
        DUE.is("netDoes of 9 FREE", x.netDoes(0, 0), 0);
        x.link(0, 50, 60);
        DUE.is("netDoes of 7 FREE", x.netDoes(0, 0), 0);
        x.link(0, 51, 61);
        DUE.is("netDoes of 5 FREE", x.netDoes(0, 0), 1);
        DUE.is("count(11 .. 16)", x.count(11) + x.count(13) + x.count(16), 0);
    }

    /** "(letter a: the first FREE one, and so on; letters of none false)". */
    private static void lettersOfNone() {
        does("a", 1, ONE);
        does("a|b|c|d|e", 1, ONE);
        does("a&!b&!c&!d&!e", 1, ONE);
        does("a&b", 0, ONE);
        does("!a", 1, PLAIN);
        does("a", 0, PLAIN);
        does("a", 1, NEVER);
        does("c&(a&!b|!a&b)", 1, ODD, ONE);
        does("a&(b&!c|!b&c)", 1, ONE, ODD);
        does("a&(b&!c|!b&c)", 0, ODD, ONE);
        PuzzleParts x = with(TWO, ODD);
        Due.formula(x, "a&!b|!a&b");
        x.link(0, 0, 11);
        DUE.is("the FREE ones are told anew", x.netDoes(0, 0), 1);
    }

    /** "-1 either". */
    private static void doesRefused() {
        PuzzleParts x = with(ONE);
        DUE.is("netDoes without FORMULAS", x.netDoes(0, 0), -1);
        Due.formula(x, "a");
        for (int none : new int[] {-1, 1, 20, LEAST, GREATEST}) {
            DUE.is("netDoes(0, " + none + ")", x.netDoes(0, none), -1);
            DUE.is("netDoes(" + none + ", 0)", x.netDoes(none, 0), -1);
            DUE.is("netDoes(" + none + ", " + none + ")", x.netDoes(none, none), -1);
        }
        DUE.is("count(11)", x.count(11), 16);
        PuzzleParts y = withParts();
        Due.formula(y, "a");
        DUE.is("netDoes without NETS", y.netDoes(0, 0), -1);
        PuzzleParts many = with(FIVE, FIVE, ONE);
        DUE.is("netDoes of 11 FREE, no FORMULA", many.netDoes(0, 0), -1);
    }

    private static PuzzleParts many() {
        PuzzleParts x = new PuzzleParts();
        Due.part(x, "01234/.....");
        Due.part(x, "0123/....");
        Due.part(x, "0#/..");
        x.net();
        for (int piece = 0; piece < 8; piece++) {
            x.piece(0, piece < 5 ? 0 : piece < 7 ? 1 : 2);
        }
        for (int i = 0; i < MANY_LINKS.length; i++) {
            DUE.is("link of many", x.link(0, MANY_LINKS[i][0], MANY_LINKS[i][1]), i + 1);
        }
        return x;
    }

    /** All at their greatest: 8 PIECES, 12 LINKS, 10 FREE, in all their STATES. */
    private static void manyOfAll() {
        PuzzleParts x = many();
        DUE.is("free(0, -1) of many", x.free(0, -1), 10);
        long[] due = sumsOfMany(x);
        long most = 0;
        for (int state = 0; state < 1024; state++) {
            if (state % 200 == 0) {
                x = many();
            }
            DUE.is("howMany in STATE " + state, x.howMany(0, state), due[state] % 1000000007L);
            DUE.is("netLets in STATE " + state, x.netLets(0, state), due[state] > 0 ? 1 : 0);
            most = Math.max(most, due[state]);
        }
        DUE.is("more than one way", most > 1000 ? 1 : 0, 1);
        DUE.is("netLets of many, 1024", x.netLets(0, 1024), -1);
        DUE.is("netLets of many, -1", x.netLets(0, -1), -1);
        DUE.is("a 13th LINK", x.link(0, x.free(0, 0), x.free(0, 9)), -6);
        DUE.is("a ninth PIECE", x.piece(0, 0), -6);
    }

    /** By trying all STATES of all LINKS. */
    private static long[] sumsOfMany(PuzzleParts x) {
        int[] slots = new int[80];
        for (int i = 0; i < MANY_LINKS.length; i++) {
            slots[MANY_LINKS[i][0]] = i;
            slots[MANY_LINKS[i][1]] = i;
        }
        for (int i = 0; i < 10; i++) {
            slots[x.free(0, i)] = 12 + i;
        }
        int[][] ways = new int[3][];
        for (int part = 0; part < 3; part++) {
            ways[part] = new int[1 << x.partOf(part, 2)];
            for (int state = 0; state < ways[part].length; state++) {
                ways[part][state] = x.ways(part, state);
            }
        }
        long[] sums = new long[1024];
        for (int all = 0; all < 1 << 22; all++) {
            long product = 1;
            for (int piece = 0; piece < 8 && product != 0; piece++) {
                int[] of = ways[piece < 5 ? 0 : piece < 7 ? 1 : 2];
                int state = 0;
                for (int face = 0; 1 << face < of.length; face++) {
                    state |= (all >> slots[10 * piece + face] & 1) << face;
                }
                product *= of[state];
            }
            sums[all >> 12] += product;
        }
        return sums;
    }
}
