/** Promises 6 to 9: LETS, WAYS, COVERED and BARRED. */
public final class TilingTest {
    private static final Due DUE = new Due("TilingTest");

    public static void main(String[] args) {
        small();
        numbers();
        first();
        fiveFaces();
        refusals();
        DUE.end();
    }

    private static void small() {
        String[] texts = {"0.1", "01", "01/..", "#", ".", "0", "..", "0#1", "./0", ".#/#.", "0/1/.", ".##.", ".#./#.#"};
        long[] lets = {6, 9, 9, 1, 0, 2, 1, 8, 1, 0, 2, 0, 0};
        long[] barred = {9, 6, 6, 0, 1, 1, 0, 7, 2, 1, 13, 0, 1};
        PuzzleParts x = new PuzzleParts();
        for (int i = 0; i < texts.length; i++) {
            Due.part(x, texts[i]);
            DUE.is("lets of " + texts[i], x.lets(i), lets[i]);
            DUE.is("barred of " + texts[i], x.barred(i), barred[i]);
            for (int state = 0; state < 1 << x.partOf(i, 2); state++) {
                DUE.is("ways of " + texts[i] + " in " + state, Math.min(1, x.ways(i, state)), lets[i] >> state & 1);
            }
        }
    }

    private static void numbers() {
        String[] texts = {"...../...../...../.....", "..../..../..../....", ".../.../...", "../..", ".../...",
            ".../.../.../...", "...../...../.....", ".../.#./...", "../../../..", "../../.."};
        int[] ways = {95, 36, 0, 2, 3, 11, 0, 2, 5, 3};
        PuzzleParts x = new PuzzleParts();
        for (int i = 0; i < texts.length; i++) {
            Due.part(x, texts[i]);
            DUE.is("ways of " + texts[i], x.ways(i, 0), ways[i]);
        }
        int corners = Due.part(x, "0..../...../...../....1");
        DUE.is("ways of two corners", x.ways(corners, 0), 95);
        DUE.is("ways, where one corner juts", x.ways(corners, 1), 0);
        DUE.is("ways, where both corners jut", x.ways(corners, 3), 23);
        DUE.is("barred of two corners", x.barred(corners), 6);
        DUE.is("lets of two corners", x.lets(corners), 9);
    }

    private static void first() {
        covers("../..", 0, "13/13");
        covers("./.", 0, "2/4");
        covers(".../...", 0, "132/134");
        covers("0.1", 1, "513");
        covers("0.1", 2, "135");
        covers("01/..", 3, "55/13");
        covers("01/..", 0, "13/13");
        covers("#", 0, "0");
        covers("0", 1, "5");
        covers("#0/..", 1, "05/13");
        covers("..0/.#./...", 0, "132/204/413");
        covers("...../...../...../.....", 0, "13132/13134/13132/13134");
        // here the first CELL's domino could lie to the right, but that TILING can not be ended
        covers("..../.##.", 0, "2132/4004");
        covers("01../.##.", 0, "2132/4004");
        // there is none: by colours, by two CELLS that are no neighbours (the second across the edge)
        covers("#../...", 0, "");
        covers("0.1", 0, "");
        covers(".##.", 0, "");
        covers("####./.####", 0, "");
    }

    /** All codes of the first TILING, LINES with "/" between; an empty text: there is none. */
    private static void covers(String text, int state, String want) {
        PuzzleParts x = new PuzzleParts();
        Due.part(x, text);
        for (int y = 0; y < x.partOf(0, 1); y++) {
            for (int column = 0; column < x.partOf(0, 0); column++) {
                int at = y * (x.partOf(0, 0) + 1) + column;
                int code = want.isEmpty() ? -9 : want.charAt(at) - '0';
                DUE.is("covered(" + text + ", " + state + ", " + (10 * column + y) + ")",
                        x.covered(0, state, 10 * column + y), code);
            }
        }
    }

    private static void fiveFaces() {
        PuzzleParts x = new PuzzleParts();
        Due.part(x, "01234");
        long lets = 0;
        for (int state = 0; state < 32; state++) {
            boolean let = inPairs(state);
            lets |= let ? 1L << state : 0;
            DUE.is("ways(0, " + state + ") of 01234", x.ways(0, state), let ? 1 : 0);
        }
        DUE.is("lets of 01234", x.lets(0), lets);
        DUE.is("the highest STATE", x.lets(0) >> 31, 1);
        DUE.is("ways(0, 32)", x.ways(0, 32), -1);
        DUE.is("barred of 01234, STATE 31", x.barred(0) >> 31, 0);
        DUE.is("barred of 01234, STATE 0", x.barred(0) & 1, 1);
        DUE.is("lets and barred have none in common", x.lets(0) & x.barred(0), 0);
    }

    /** Whether the zeros among five bits stand in runs of even length. */
    private static boolean inPairs(int state) {
        int run = 0;
        for (int i = 0; i < 5; i++) {
            boolean juts = (state >> i & 1) != 0;
            if (juts && run % 2 != 0) {
                return false;
            }
            run = juts ? 0 : run + 1;
        }
        return run % 2 == 0;
    }

    private static void refusals() {
        PuzzleParts x = new PuzzleParts();
        Due.part(x, "0.1");
        DUE.is("lets(1)", x.lets(1), 4000000000000000001L);
        DUE.is("lets(-1)", x.lets(-1), 4000000000000000001L);
        DUE.is("barred(1)", x.barred(1), 4000000000000000001L);
        DUE.is("barred(-1)", x.barred(-1), 4000000000000000001L);
        DUE.is("ways(1, 0)", x.ways(1, 0), -1);
        DUE.is("ways(0, 4)", x.ways(0, 4), -1);
        DUE.is("ways(0, -1)", x.ways(0, -1), -1);
        DUE.is("ways(0, least)", x.ways(0, Integer.MIN_VALUE), -1);
        DUE.is("covered(1, 0, 0)", x.covered(1, 0, 0), -1);
        DUE.is("covered(0, 4, 0)", x.covered(0, 4, 0), -1);
        DUE.is("covered(0, -1, 0)", x.covered(0, -1, 0), -1);
        DUE.is("covered(0, 0, 1)", x.covered(0, 0, 1), -1);
        DUE.is("covered(0, 0, 30)", x.covered(0, 0, 30), -1);
        DUE.is("covered(0, 1, -1)", x.covered(0, 1, -1), -1);
        DUE.is("covered(0, 3, 10): no TILING", x.covered(0, 3, 10), -9);
        DUE.is("covered(0, 3, 0): no TILING", x.covered(0, 3, 0), -9);
        DUE.is("count(11)", x.count(11), 14);
        DUE.is("a PART without FACES has one STATE", Due.part(x, ".."), 1);
        DUE.is("ways(1, 0)", x.ways(1, 0), 1);
        DUE.is("ways(1, 1)", x.ways(1, 1), -1);
    }
}
