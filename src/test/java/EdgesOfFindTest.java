/** Boundary cases of THE ROW and of BOARDS FOUND by it (III.; promises 20 and 21), a sentence each. */
public final class EdgesOfFindTest {
    private static final Due DUE = new Due("EdgesOfFindTest");
    private static final int LEAST = Integer.MIN_VALUE;
    private static final int GREATEST = Integer.MAX_VALUE;

    public static void main(String[] args) {
        putOfAllNumbers();
        rowOfThree();
        findOfAllSizes();
        refusedInOrder();
        rowRefused();
        rowStays();
        rowIsUsed();
        facesByRow();
        firstAndLastNumber();
        leastOfSeveral();
        lettersOfNoFace();
        lastPart();
        DUE.end();
    }

    private static PuzzleParts with(String formula, int... row) {
        PuzzleParts x = new PuzzleParts();
        Due.formula(x, formula);
        for (int xy : row) {
            x.put(xy);
        }
        return x;
    }

    /** "-4; -6 (99; 3, too)": any number 0 .. 99 is a CELL of THE ROW. */
    private static void putOfAllNumbers() {
        for (int xy = -12; xy <= 112; xy++) {
            PuzzleParts x = new PuzzleParts();
            int want = xy < 0 ? -4 : xy > 99 ? -6 : 1;
            DUE.is("put(" + xy + ")", x.put(xy), want);
            DUE.is("count(5) after put(" + xy + ")", x.count(5), want == 1 ? 1 : 0);
            DUE.is("count(14) after put(" + xy + ")", x.count(14), want == -4 ? 1 : 0);
            DUE.is("count(16) after put(" + xy + ")", x.count(16), want == -6 ? 1 : 0);
        }
        PuzzleParts x = new PuzzleParts();
        DUE.is("put(least)", x.put(LEAST), -4);
        DUE.is("put(greatest)", x.put(GREATEST), -6);
    }

    /** "how many"; "1 to 3 CELLS": a fourth has no room, but what is below the least is told first. */
    private static void rowOfThree() {
        PuzzleParts x = new PuzzleParts();
        for (int i = 1; i <= 3; i++) {
            DUE.is("put of CELL " + i, x.put(i), i);
            DUE.is("count(5)", x.count(5), i);
        }
        DUE.is("put of a fourth", x.put(4), -6);
        DUE.is("put of a fourth, 100", x.put(100), -6);
        DUE.is("put of a fourth, -1", x.put(-1), -4);
        DUE.is("count(5)", x.count(5), 3);
        DUE.is("count(14)", x.count(14), 1);
        DUE.is("count(16)", x.count(16), 2);
    }

    /** "-4; -6 (more than 9 CELLS, 5 WIDE, 4 HIGH)". */
    private static void findOfAllSizes() {
        for (int wide = -2; wide <= 10; wide++) {
            for (int high = -2; high <= 10; high++) {
                PuzzleParts x = with("0|a|!a", 0);
                boolean below = wide < 1 || high < 1;
                boolean above = wide > 5 || high > 4 || wide * high > 9;
                String call = "find(" + wide + ", " + high + ", 0)";
                // in both STATES there is a TILING of one FACE and other CELLS never: by colours
                DUE.is(call, x.find(wide, high, 0), below ? -4 : above ? -6 : -9);
                DUE.is("count(5) after " + call, x.count(5), below || above ? 1 : 0);
                PuzzleParts y = with("a", 0);
                DUE.is(call + " of a", y.find(wide, high, 0), below ? -4 : above ? -6 : 0);
                if (!below && !above) {
                    DUE.is("WIDE after " + call, y.partOf(0, 0), wide);
                    DUE.is("HIGH after " + call, y.partOf(0, 1), high);
                    DUE.is("does after " + call, y.does(0, 0), 1);
                }
            }
        }
        int[] odd = {LEAST, GREATEST, 65536, -65536, 46341};
        for (int wide : odd) {
            for (int high : odd) {
                int want = wide < 1 || high < 1 ? -4 : -6;
                DUE.is("find(" + wide + ", " + high + ", 0)", with("a", 0).find(wide, high, 0), want);
            }
            DUE.is("find(" + wide + ", 1, 0)", with("a", 0).find(wide, 1, 0), wide < 1 ? -4 : -6);
            DUE.is("find(1, " + wide + ", 0)", with("a", 0).find(1, wide, 0), wide < 1 ? -4 : -6);
        }
    }

    /** "-1; -4; -6; -3": each alone, then each ahead of those behind it. */
    private static void refusedInOrder() {
        for (int formula : new int[] {-1, 1, 20, LEAST, GREATEST}) {
            DUE.is("find of FORMULA " + formula, with("a", 0).find(1, 1, formula), -1);
            DUE.is("find of FORMULA " + formula + ", 0 WIDE", with("a", 0).find(0, 1, formula), -1);
            DUE.is("find of FORMULA " + formula + ", 6 WIDE", with("a", 0).find(6, 1, formula), -1);
            DUE.is("find of FORMULA " + formula + ", no ROW", with("a").find(1, 1, formula), -1);
        }
        DUE.is("find 0 WIDE, 5 HIGH", with("a", 0).find(0, 5, 0), -4);
        DUE.is("find 6 WIDE, 0 HIGH", with("a", 0).find(6, 0, 0), -4);
        DUE.is("find 0 WIDE, no ROW", with("a").find(0, 1, 0), -4);
        DUE.is("find 0 HIGH, a CELL beyond", with("a", 11).find(1, 0, 0), -4);
        DUE.is("find 6 WIDE, no ROW", with("a").find(6, 1, 0), -6);
        DUE.is("find 5 HIGH, one twice", with("a", 0, 0).find(1, 5, 0), -6);
        DUE.is("find of 10 CELLS, a CELL beyond", with("a", 50).find(5, 2, 0), -6);
        PuzzleParts full = with("a");
        Edge.fillParts(full, 24);
        DUE.is("find of 24, no ROW", full.find(1, 1, 0), -6);
        full.put(99);
        DUE.is("find of 24, a CELL beyond", full.find(1, 1, 0), -6);
        DUE.is("find of 24, 0 WIDE", full.find(0, 1, 0), -4);
        DUE.is("find of 24, 6 WIDE", full.find(6, 1, 0), -6);
        DUE.is("find of 24, no FORMULA", full.find(1, 1, 1), -1);
        DUE.is("count(5): it stays", full.count(5), 1);
        DUE.is("count(16)", full.count(16), 3);
        DUE.is("count(13)", full.count(13), 0);
    }

    /** "-3 THE ROW has none, unlike CELLS not, or one beyond". */
    private static void rowRefused() {
        DUE.is("find, no ROW", with("a").find(3, 3, 0), -3);
        int[][] twice = {{0, 0}, {0, 10, 0}, {10, 0, 0}, {0, 0, 10}, {22, 22, 22}};
        for (int[] row : twice) {
            DUE.is("find with one CELL twice", with("a", row).find(3, 3, 0), -3);
        }
        for (int xy = 0; xy <= 99; xy++) {
            boolean within = xy / 10 < 3 && xy % 10 < 2;
            DUE.is("find(3, 2, 0) with " + xy, with("a", xy).find(3, 2, 0) == -3 ? 1 : 0, within ? 0 : 1);
            if (xy > 0) {
                DUE.is("find(3, 2, 0) with 0 and " + xy, with("a&b", 0, xy).find(3, 2, 0) == -3 ? 1 : 0,
                        within ? 0 : 1);
                DUE.is("find(3, 2, 0) with " + xy + " and 0", with("a&b", xy, 0).find(3, 2, 0) == -3 ? 1 : 0,
                        within ? 0 : 1);
            }
        }
        DUE.is("find with the third beyond", with("a", 0, 1, 5).find(2, 2, 0), -3);
        DUE.is("find with 05: y beyond", with("a", 5).find(5, 1, 0), -3);
        DUE.is("find with 10: x beyond", with("a", 10).find(1, 4, 0), -3);
    }

    /** "(Refused: it stays.)": the same ROW is used by the next find(). */
    private static void rowStays() {
        PuzzleParts x = with("a&!b|!a&b", 20, 0);
        DUE.is("find of FORMULA 1", x.find(3, 1, 1), -1);
        DUE.is("find 0 WIDE", x.find(0, 1, 0), -4);
        DUE.is("find of 12 CELLS", x.find(3, 4, 0), -6);
        DUE.is("find with a CELL beyond", x.find(2, 1, 0), -3);
        DUE.is("count(5): it stays", x.count(5), 2);
        DUE.is("find", x.find(3, 1, 0), 0);
        DUE.shows(x, 0, "1.0");
        DUE.is("count(5)", x.count(5), 0);
        DUE.is("find again", x.find(3, 1, 0), -3);
    }

    /** "THE ROW, which has none then": where a BOARD was found, and where none was. */
    private static void rowIsUsed() {
        PuzzleParts x = with("!a&!b|a&b", 0, 10);
        Due.formula(x, "1");
        DUE.is("find of none", x.find(2, 2, 1), -9);
        DUE.is("count(5) after none", x.count(5), 0);
        DUE.is("count(0) after none", x.count(0), 0);
        DUE.is("find without THE ROW", x.find(2, 2, 0), -3);
        DUE.is("put after none", x.put(10), 1);
        DUE.is("put after none", x.put(0), 2);
        DUE.is("find", x.find(2, 2, 0), 0);
        DUE.is("count(5) after one", x.count(5), 0);
        DUE.shows(x, 0, "10/..");
        DUE.is("put after one", x.put(11), 1);
        DUE.is("count(11 .. 16)", x.count(11) + x.count(12) + x.count(14) + x.count(16), 0);
        DUE.is("count(13)", x.count(13), 1);
    }

    private static void found(String formula, int wide, int high, String want, int... row) {
        PuzzleParts x = with(formula, row);
        String call = "find(" + wide + ", " + high + ", " + formula + ")";
        DUE.is(call, x.find(wide, high, 0), want.isEmpty() ? -9 : 0);
        if (!want.isEmpty()) {
            DUE.shows(x, 0, want);
            DUE.is("does after " + call, x.does(0, 0), 1);
            DUE.is("misses after " + call, x.misses(0, 0), -9);
        }
    }

    /** "with FACES 0 .. at told CELLS (1 to 3 CELLS)": in the order of THE ROW. */
    private static void facesByRow() {
        found("a", 1, 1, "0", 0);
        found("a&b", 2, 1, "", 0, 10);
        found("!a&!b|a&b", 2, 1, "01", 0, 10);
        found("!a&!b|a&b", 2, 1, "10", 10, 0);
        found("!a&!b|a&b", 1, 2, "1/0", 1, 0);
        // the middle one is covered with the left one, with the right one, or all jut out
        String middleFirst = "!a&!c&b|!a&!b&c|a&b&c";
        String middleSecond = "!a&!b&c|!b&!c&a|a&b&c";
        found(middleFirst, 3, 1, "201", 10, 20, 0);
        found(middleFirst, 3, 1, "", 0, 10, 20);
        found(middleFirst, 1, 3, "2/0/1", 1, 2, 0);
        found(middleSecond, 3, 1, "012", 0, 10, 20);
        found(middleSecond, 3, 1, "", 10, 20, 0);
    }

    /** "other CELLS are BLOCKED (as bits of them row by row)": none of them at first, all of them at last. */
    private static void firstAndLastNumber() {
        found("a", 3, 3, "0../.../...", 0);
        found("!a", 4, 2, "0.../....", 0);
        found("a&b&c", 3, 2, "0#1/#2#", 0, 20, 11);
        found("a&b&c", 3, 3, "0#1/#../2..", 0, 20, 2);
        found("a&b", 2, 2, "0#/#1", 0, 11);
        found("a", 2, 1, "0#", 0);
        found("a", 1, 2, "#/0", 1);
        found("!a", 2, 1, ".0", 10);
        found("0", 1, 1, "", 0);
        found("1", 3, 3, "", 11);
    }

    /** "the first the lowest; the least number": of all that DO it, tried in the test by texts. */
    private static void leastOfSeveral() {
        String[] formulas = {"a", "!a", "0", "a&b", "a|b", "!a&!b", "a&!b|!a&b", "!a&!b|a&b", "a&!b", "!a&b"};
        int[][] sizes = {{1, 4}, {4, 1}, {5, 1}, {2, 2}, {3, 2}, {2, 3}, {4, 2}, {2, 4}, {3, 3}};
        for (int[] size : sizes) {
            int cells = size[0] * size[1];
            for (int first = 0; first < cells; first++) {
                int second = (first + 3) % cells;
                for (String formula : formulas) {
                    boolean two = formula.indexOf('b') >= 0;
                    int[] one = {told(first, size[0])};
                    int[] both = {told(first, size[0]), told(second, size[0])};
                    found(formula, size[0], size[1],
                            leastBoard(formula, size[0], size[1], first, two ? second : -1), two ? both : one);
                }
            }
        }
    }

    private static int told(int place, int wide) {
        return 10 * (place % wide) + place / wide;
    }

    /** All numbers upwards; each BOARD is made as a text, and asked whether it DOES the FORMULA. */
    private static String leastBoard(String formula, int wide, int high, int first, int second) {
        int others = wide * high - (second < 0 ? 1 : 2);
        PuzzleParts x = null;
        for (int number = 0; number < 1 << others; number++) {
            if (number % 20 == 0) {
                x = with(formula);
            }
            StringBuilder text = new StringBuilder();
            int bit = 0;
            for (int place = 0; place < wide * high; place++) {
                text.append(place > 0 && place % wide == 0 ? "/" : "");
                if (place == first || place == second) {
                    text.append(place == first ? '0' : '1');
                } else {
                    text.append((number >> bit & 1) != 0 ? '#' : '.');
                    bit++;
                }
            }
            if (x.does(Due.part(x, text.toString()), 0) == 1) {
                return text.toString();
            }
        }
        return "";
    }

    /** "letters of no FACE false": those beyond THE ROW, too. */
    private static void lettersOfNoFace() {
        found("a|b|c|d|e", 1, 1, "0", 0);
        found("!a&!b&!e", 2, 1, "0.", 0);
        found("a&b", 1, 1, "", 0);
        found("(!a&!b|a&b)&!c&!d&!e", 4, 1, "0..1", 0, 30);
    }

    /** "24": the 24th PART may be FOUND. */
    private static void lastPart() {
        PuzzleParts x = with("a", 0);
        Edge.fillParts(x, 23);
        DUE.is("find to the 24th", x.find(1, 1, 0), 23);
        DUE.shows(x, 23, "0");
        x.put(0);
        DUE.is("find of 24", x.find(1, 1, 0), -6);
        DUE.is("count(5): it stays", x.count(5), 1);
        DUE.is("count(0)", x.count(0), 24);
    }
}
