/** Promises 14 to 19: TURNED, MIRRORED, LESS a CELL, RENAMED; ALIKE and NEEDLESS. */
public final class MadePartsTest {
    private static final Due DUE = new Due("MadePartsTest");

    public static void main(String[] args) {
        turns();
        mirrors();
        lessens();
        renames();
        alikes();
        needlesses();
        DUE.end();
    }

    private static void turns() {
        PuzzleParts x = new PuzzleParts();
        Due.part(x, "0.#/1..");
        DUE.is("turn(0)", x.turn(0), 1);
        DUE.shows(x, 1, "10/../.#");
        DUE.shows(x, 0, "0.#/1..");
        DUE.is("partOf(1, 0)", x.partOf(1, 0), 2);
        DUE.is("partOf(1, 1)", x.partOf(1, 1), 3);
        DUE.is("turn(1)", x.turn(1), 2);
        DUE.shows(x, 2, "..1/#.0");
        DUE.is("turn(2)", x.turn(2), 3);
        DUE.shows(x, 3, "#./../01");
        DUE.is("turn(3)", x.turn(3), 4);
        DUE.shows(x, 4, "0.#/1..");
        for (int part = 0; part <= 4; part++) {
            DUE.is("lets(" + part + ")", x.lets(part), x.lets(0));
        }
        Due.part(x, "....");
        DUE.is("turn of 4 WIDE", x.turn(5), 6);
        DUE.shows(x, 6, "./././.");
        DUE.is("turn of 1 WIDE", x.turn(6), 7);
        DUE.shows(x, 7, "....");
        Due.part(x, ".0.../.....");
        DUE.is("turn of 5 WIDE", x.turn(8), -3);
        DUE.is("turn(9)", x.turn(9), -1);
        DUE.is("turn(-1)", x.turn(-1), -1);
        DUE.is("count(0)", x.count(0), 9);
        fill(x);
        DUE.is("turn of 24", x.turn(0), -6);
        DUE.is("turn of 24, 5 WIDE", x.turn(8), -6);
        DUE.is("turn of 24, none", x.turn(24), -1);
        DUE.is("count(11)", x.count(11), 3);
        DUE.is("count(13)", x.count(13), 1);
        DUE.is("count(16)", x.count(16), 2);
        DUE.is("count(0)", x.count(0), 24);
    }

    private static void fill(PuzzleParts x) {
        while (x.count(0) < 24) {
            Due.part(x, ".");
        }
    }

    private static void mirrors() {
        PuzzleParts x = new PuzzleParts();
        Due.part(x, "0.#/1..");
        DUE.is("mirror(0)", x.mirror(0), 1);
        DUE.shows(x, 1, "#.0/..1");
        DUE.is("mirror(1)", x.mirror(1), 2);
        DUE.shows(x, 2, "0.#/1..");
        Due.part(x, "#.0.1");
        DUE.is("mirror of 5 WIDE", x.mirror(3), 4);
        DUE.shows(x, 4, "1.0.#");
        DUE.is("mirror(5)", x.mirror(5), -1);
        DUE.is("mirror(-1)", x.mirror(-1), -1);
        fill(x);
        DUE.is("mirror of 24", x.mirror(0), -6);
        DUE.is("mirror of 24, none", x.mirror(24), -1);
        DUE.is("count(11)", x.count(11), 3);
        DUE.is("count(16)", x.count(16), 1);
    }

    private static void lessens() {
        PuzzleParts x = new PuzzleParts();
        Due.part(x, "0..#/1...");
        DUE.is("less(0, 21)", x.less(0, 21), 1);
        DUE.shows(x, 1, "0..#/1.#.");
        DUE.shows(x, 0, "0..#/1...");
        DUE.is("partOf(1, 3)", x.partOf(1, 3), 6);
        DUE.is("less(1, 31)", x.less(1, 31), 2);
        DUE.shows(x, 2, "0..#/1.##");
        DUE.is("less of a FACE", x.less(0, 0), -3);
        DUE.is("less of FACE 1", x.less(0, 1), -3);
        DUE.is("less of a BLOCKED CELL", x.less(0, 30), -3);
        DUE.is("less of what was OPEN", x.less(1, 21), -3);
        DUE.is("less(0, 40)", x.less(0, 40), -1);
        DUE.is("less(0, 2)", x.less(0, 2), -1);
        DUE.is("less(0, -1)", x.less(0, -1), -1);
        DUE.is("less(3, 0)", x.less(3, 0), -1);
        fill(x);
        DUE.is("less of 24", x.less(0, 10), -6);
        DUE.is("less of 24, a FACE", x.less(0, 0), -3);
        DUE.is("less of 24, no CELL", x.less(0, 40), -1);
        DUE.is("count(0)", x.count(0), 24);
        DUE.is("count(11)", x.count(11), 5);
        DUE.is("count(13)", x.count(13), 5);
        DUE.is("count(16)", x.count(16), 1);
    }

    private static void renames() {
        PuzzleParts x = new PuzzleParts();
        Due.part(x, "012/...");
        DUE.is("rename(0, 120)", x.rename(0, 120), 1);
        DUE.shows(x, 1, "120/...");
        DUE.is("rename(1, 120)", x.rename(1, 120), 2);
        DUE.shows(x, 2, "201/...");
        DUE.is("rename(0, 12)", x.rename(0, 12), 3);
        DUE.shows(x, 3, "012/...");
        DUE.is("rename(1, 21)", x.rename(1, 21), 4);
        DUE.shows(x, 4, "210/...");
        int[] none = {0, 11, 13, 112, 1203, 3, 10, 1120, 1012, 312, -12, -120, Integer.MIN_VALUE, Integer.MAX_VALUE};
        for (int digits : none) {
            DUE.is("rename(0, " + digits + ")", x.rename(0, digits), -3);
        }
        DUE.is("count(13)", x.count(13), none.length);
        Due.part(x, "##.");
        DUE.is("rename without FACES", x.rename(5, 0), 6);
        DUE.is("rename without FACES", x.rename(5, 1), -3);
        DUE.shows(x, 6, "##.");
        Due.part(x, "0.");
        DUE.is("rename of one FACE", x.rename(7, 0), 8);
        DUE.is("rename of one FACE", x.rename(7, 1), -3);
        Due.part(x, "01234");
        DUE.is("rename of five FACES", x.rename(9, 43210), 10);
        DUE.shows(x, 10, "43210");
        DUE.is("rename of five FACES", x.rename(9, 3412), 11);
        DUE.shows(x, 11, "03412");
        DUE.is("lets", x.lets(11) >> 1 & 1, 1);
        DUE.is("rename(12, 0)", x.rename(12, 0), -1);
        DUE.is("rename(-1, 0)", x.rename(-1, 0), -1);
        fill(x);
        DUE.is("rename of 24", x.rename(0, 120), -6);
        DUE.is("rename of 24, no permutation", x.rename(0, 0), -3);
        DUE.is("rename of 24, none", x.rename(24, 0), -1);
        DUE.is("count(11)", x.count(11), 3);
        DUE.is("count(16)", x.count(16), 1);
    }

    private static void alikes() {
        alike("0.1", "0.1", 1);
        alike("0.1", "1.0", 1);
        alike("0.1", "0/./1", 1);
        alike("0.1", "1/./0", 1);
        alike("0.1", "01.", 0);
        alike("0.1", "0..", 0);
        alike("0.1", "0.1/###", 0);
        alike("0../..#", "#../..0", 1);
        alike("0.#/..1", "#.0/1..", 1);
        alike("0.#/..1", "0./../#1", 1);
        alike("0.#/..1", "0./../1#", 0);
        alike("0.#/..1", "0./../1.", 0);
        alike("0.#/..1", ".0/../1#", 1);
        alike("0..../.....", "...../....0", 1);
        alike("0..../.....", "...../0....", 1);
        alike("0..../.....", "....0/.....", 1);
        alike("0..../.....", ".0.../.....", 0);
        alike("01../....", "../../1./0.", 1);
        alike("01../....", "../../0./1.", 0);
        alike("01../....", "../../.1/.0", 1);
        alike("01../....", "../0./1./..", 0);
        alike("01/..", "../10", 1);
        alike("01/..", "1./0.", 1);
        alike("01/..", "0./.1", 0);
        alike("...../...../...../..0..", "..0../...../...../.....", 1);
        PuzzleParts x = new PuzzleParts();
        Due.part(x, ".");
        DUE.is("alike(0, 1)", x.alike(0, 1), -1);
        DUE.is("alike(1, 0)", x.alike(1, 0), -1);
        DUE.is("alike(-1, -1)", x.alike(-1, -1), -1);
        DUE.is("alike(0, 0)", x.alike(0, 0), 1);
        DUE.is("count(11)", x.count(11), 3);
        DUE.is("count(0)", x.count(0), 1);
    }

    private static void alike(String a, String b, int want) {
        PuzzleParts x = new PuzzleParts();
        Due.part(x, a);
        Due.part(x, b);
        DUE.is("alike(" + a + ", " + b + ")", x.alike(0, 1), want);
        DUE.is("alike(" + b + ", " + a + ")", x.alike(1, 0), want);
    }

    private static void needlesses() {
        needless("0.1", 0);
        needless("..", 0);
        needless("01/..", 0);
        // LETS nothing, and still nothing without the middle one
        needless("...", 2);
        needless(".", 0);
        needless(".#.", 5);
        needless("#..../#####", 0);
        needless(".#./#.#/.#.", 1 | 1 << 2 | 1 << 6 | 1 << 10 | 1 << 12);
        needless("##..#/.####/####.", 1 << 2 | 1 << 3 | 1 << 5 | 1 << 14);
        needless("0..../...../...../.....", 0);
        PuzzleParts x = new PuzzleParts();
        DUE.is("needless(0)", x.needless(0), -1);
        DUE.is("needless(-1)", x.needless(-1), -1);
        DUE.is("count(11)", x.count(11), 2);
    }

    private static void needless(String text, int want) {
        PuzzleParts x = new PuzzleParts();
        Due.part(x, text);
        DUE.is("needless of " + text, x.needless(0), want);
        DUE.shows(x, 0, text);
        DUE.is("count(0)", x.count(0), 1);
    }
}
