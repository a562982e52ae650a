/** Promises 20 and 21: THE ROW, and BOARDS FOUND by it. */
public final class FindTest {
    private static final Due DUE = new Due("FindTest");

    public static void main(String[] args) {
        puts();
        finds();
        leastNumber();
        refusals();
        room();
        DUE.end();
    }

    private static void puts() {
        PuzzleParts x = new PuzzleParts();
        DUE.is("put(-1)", x.put(-1), -4);
        DUE.is("put(least)", x.put(Integer.MIN_VALUE), -4);
        DUE.is("put(100)", x.put(100), -6);
        DUE.is("put(greatest)", x.put(Integer.MAX_VALUE), -6);
        DUE.is("count(5)", x.count(5), 0);
        DUE.is("put(0)", x.put(0), 1);
        DUE.is("put(99)", x.put(99), 2);
        DUE.is("put(99) again", x.put(99), 3);
        DUE.is("put of a fourth", x.put(1), -6);
        DUE.is("put(-1), when full", x.put(-1), -4);
        DUE.is("count(5)", x.count(5), 3);
        DUE.is("count(14)", x.count(14), 3);
        DUE.is("count(16)", x.count(16), 3);
    }

    /** What is found with FACES at these CELLS; an empty text: none. */
    private static void find(int wide, int high, String formula, String want, int... row) {
        PuzzleParts x = new PuzzleParts();
        Due.formula(x, formula);
        for (int xy : row) {
            x.put(xy);
        }
        String call = "find(" + wide + ", " + high + ", " + formula + ")";
        DUE.is(call, x.find(wide, high, 0), want.isEmpty() ? -9 : 0);
        DUE.is("count(5) after " + call, x.count(5), 0);
        DUE.is("count(0) after " + call, x.count(0), want.isEmpty() ? 0 : 1);
        if (!want.isEmpty()) {
            DUE.shows(x, 0, want);
            DUE.is("does(0, 0) after " + call, x.does(0, 0), 1);
            DUE.is("lets(0) after " + call, x.lets(0), x.means(0, row.length));
        }
        for (int what = 11; what <= 16; what++) {
            DUE.is("count(" + what + ") after " + call, x.count(what), 0);
        }
    }

    private static void finds() {
        find(3, 1, "a&!b|!a&b", "0.1", 0, 20);
        find(3, 1, "a&!b|!a&b", "1.0", 20, 0);
        find(2, 2, "!a&!b|a&b", "01/..", 0, 10);
        find(3, 2, "!a&!b|a&b", "", 0, 20);
        find(1, 1, "a", "0", 0);
        find(1, 1, "!a", "", 0);
        find(2, 1, "!a", "0.", 0);
        find(2, 1, "a", "0#", 0);
        find(1, 2, "!a", "./0", 1);
        find(3, 3, "a&b&c", "", 0, 10, 20);
        find(2, 2, "0", "", 0, 11);
        find(3, 2, "0", "0.#/...", 0);
        find(5, 1, "a&b", "0#..1", 0, 40);
        find(1, 4, "a", "././0/#", 2);
    }

    private static void leastNumber() {
        // the first CELL that is no FACE has the lowest bit, and fewer bits do not count as less
        find(3, 1, "!a", "0.#", 0);
        find(3, 1, "a", "0..", 0);
        find(1, 4, "!a", "0/././.", 0);
        find(4, 1, "a", "#0..", 10);
        find(3, 3, "!a", "0.#/.../...", 0);
        find(3, 3, "a", "0../.../...", 0);
        find(3, 2, "a&b", "0#1/#..", 0, 20);
    }

    private static void refusals() {
        PuzzleParts x = new PuzzleParts();
        x.put(0);
        DUE.is("find without FORMULAS", x.find(1, 1, 0), -1);
        DUE.is("find without FORMULAS, 0 WIDE", x.find(0, 9, 0), -1);
        Due.formula(x, "a");
        DUE.is("find of FORMULA -1", x.find(1, 1, -1), -1);
        DUE.is("find of FORMULA 1", x.find(1, 1, 1), -1);
        DUE.is("find 0 WIDE", x.find(0, 1, 0), -4);
        DUE.is("find 0 HIGH", x.find(1, 0, 0), -4);
        DUE.is("find 6 WIDE, 0 HIGH", x.find(6, 0, 0), -4);
        DUE.is("find -1 WIDE, 5 HIGH", x.find(-1, 5, 0), -4);
        DUE.is("find least WIDE and HIGH", x.find(Integer.MIN_VALUE, Integer.MIN_VALUE, 0), -4);
        DUE.is("find 6 WIDE", x.find(6, 1, 0), -6);
        DUE.is("find 5 HIGH", x.find(1, 5, 0), -6);
        DUE.is("find 5 by 2", x.find(5, 2, 0), -6);
        DUE.is("find 4 by 3", x.find(4, 3, 0), -6);
        DUE.is("find 3 by 4", x.find(3, 4, 0), -6);
        DUE.is("find 65536 by 65536", x.find(65536, 65536, 0), -6);
        DUE.is("find greatest", x.find(Integer.MAX_VALUE, Integer.MAX_VALUE, 0), -6);
        DUE.is("count(5): it stays", x.count(5), 1);
        DUE.is("find", x.find(1, 1, 0), 0);
        DUE.is("find without THE ROW", x.find(1, 1, 0), -3);
        DUE.is("find without THE ROW, 6 WIDE", x.find(6, 1, 0), -6);
        x.put(11);
        DUE.is("find with x beyond", x.find(1, 2, 0), -3);
        DUE.is("find with y beyond", x.find(2, 1, 0), -3);
        DUE.is("count(5): it stays", x.count(5), 1);
        x.put(1);
        x.put(11);
        DUE.is("find with one twice", x.find(2, 2, 0), -3);
        DUE.is("count(5): it stays", x.count(5), 3);
        DUE.is("count(0)", x.count(0), 1);
        DUE.is("count(11)", x.count(11), 4);
        DUE.is("count(13)", x.count(13), 4);
        DUE.is("count(14)", x.count(14), 5);
        DUE.is("count(16)", x.count(16), 8);
    }

    private static void room() {
        PuzzleParts x = new PuzzleParts();
        Due.formula(x, "a");
        for (int i = 0; i < 24; i++) {
            x.put(0);
            DUE.is("find", x.find(1, 1, 0), i);
        }
        DUE.is("find of 24, without THE ROW", x.find(1, 1, 0), -6);
        x.put(0);
        DUE.is("find of 24", x.find(1, 1, 0), -6);
        DUE.is("find of 24, 0 WIDE", x.find(0, 1, 0), -4);
        DUE.is("find of 24, no FORMULA", x.find(1, 1, 1), -1);
        DUE.is("count(5): it stays", x.count(5), 1);
        DUE.is("count(0)", x.count(0), 24);
    }
}
