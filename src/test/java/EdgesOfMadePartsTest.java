import java.util.ArrayList;
import java.util.List;

/** Boundary cases of PARTS that come of others (III.; promises 14 to 19), a sentence each. */
public final class EdgesOfMadePartsTest {
    private static final Due DUE = new Due("EdgesOfMadePartsTest");
    private static final int LEAST = Integer.MIN_VALUE;
    private static final int GREATEST = Integer.MAX_VALUE;
    private static final String MOST = "0.#.1/.2.../#..3./4...#";

    public static void main(String[] args) {
        turnsOfAllSizes();
        turnsRefused();
        mirrorsOfAllSizes();
        mirrorsRefused();
        eachCellLess();
        lessRefused();
        renamesOfAllDigits();
        eachFaceRenamed();
        renamesRefused();
        allPartsAlike();
        partsUnlike();
        alikeRefused();
        needlessEnds();
        needlessRefused();
        lastNumbers();
        DUE.end();
    }

    /** The upper left WIDE times HIGH CELLS of one BOARD, with FACES that have a gap taken out. */
    private static String corner(int wide, int high) {
        StringBuilder text = new StringBuilder();
        for (int y = 0; y < high; y++) {
            text.append(y == 0 ? "" : "/").append(MOST.split("/")[y], 0, wide);
        }
        String made = text.toString();
        for (int face = 1; face <= 4; face++) {
            if (made.indexOf('0' + face - 1) < 0) {
                made = made.replace((char) ('0' + face), '.');
            }
        }
        return made;
    }

    /** "its CELL x, y goes to HIGH less 1 less y, x". */
    private static String turned(String text) {
        String[] lines = text.split("/");
        char[][] made = new char[lines[0].length()][lines.length];
        for (int y = 0; y < lines.length; y++) {
            for (int x = 0; x < lines[0].length(); x++) {
                made[x][lines.length - 1 - y] = lines[y].charAt(x);
            }
        }
        return joined(made);
    }

    /** "x goes to WIDE less 1 less x". */
    private static String mirrored(String text) {
        String[] lines = text.split("/");
        char[][] made = new char[lines.length][lines[0].length()];
        for (int y = 0; y < lines.length; y++) {
            for (int x = 0; x < lines[0].length(); x++) {
                made[y][lines[0].length() - 1 - x] = lines[y].charAt(x);
            }
        }
        return joined(made);
    }

    private static String joined(char[][] lines) {
        StringBuilder text = new StringBuilder();
        for (char[] line : lines) {
            text.append(text.length() == 0 ? "" : "/").append(line);
        }
        return text.toString();
    }

    /** "a BOARD 5 WIDE is too HIGH then": 1 .. 4 WIDE are not, however HIGH. */
    private static void turnsOfAllSizes() {
        for (int wide = 1; wide <= 5; wide++) {
            for (int high = 1; high <= 4; high++) {
                String text = corner(wide, high);
                PuzzleParts x = new PuzzleParts();
                Due.part(x, text);
                if (wide == 5) {
                    DUE.is("turn of " + text, x.turn(0), -3);
                    DUE.is("count(0) after it", x.count(0), 1);
                    DUE.is("count(13) after it", x.count(13), 1);
                    continue;
                }
                String due = text;
                for (int turn = 1; turn <= 4; turn++) {
                    due = turned(due);
                    DUE.is("turn of " + text, x.turn(turn - 1), turn);
                    DUE.shows(x, turn, due);
                    DUE.is("lets, turned", x.lets(turn), x.lets(0));
                }
                DUE.shows(x, 4, text);
                DUE.shows(x, 0, text);
                DUE.is("count(13)", x.count(13), 0);
            }
        }
        PuzzleParts x = new PuzzleParts();
        Due.part(x, "012#");
        x.turn(0);
        DUE.shows(x, 1, "0/1/2/#");
        x.turn(1);
        DUE.shows(x, 2, "#210");
    }

    /** "-1; -6 24; -3 it is 5 WIDE". */
    private static void turnsRefused() {
        PuzzleParts x = new PuzzleParts();
        DUE.is("turn(0) without PARTS", x.turn(0), -1);
        Due.part(x, "....");
        Due.part(x, ".....");
        for (int none : new int[] {-1, 2, 24, LEAST, GREATEST}) {
            DUE.is("turn(" + none + ")", x.turn(none), -1);
        }
        DUE.is("turn of 5 WIDE", x.turn(1), -3);
        Edge.fillParts(x, 23);
        DUE.is("turn to the 24th", x.turn(0), 23);
        DUE.is("turn of 24", x.turn(0), -6);
        DUE.is("turn of 24, 5 WIDE", x.turn(1), -6);
        DUE.is("turn(24) of 24", x.turn(24), -1);
        DUE.is("count(0)", x.count(0), 24);
    }

    /** "MIRRORED (x goes to WIDE less 1 less x)": 5 WIDE, too. */
    private static void mirrorsOfAllSizes() {
        for (int wide = 1; wide <= 5; wide++) {
            for (int high = 1; high <= 4; high++) {
                String text = corner(wide, high);
                PuzzleParts x = new PuzzleParts();
                Due.part(x, text);
                DUE.is("mirror of " + text, x.mirror(0), 1);
                DUE.shows(x, 1, mirrored(text));
                DUE.is("mirror of it", x.mirror(1), 2);
                DUE.shows(x, 2, text);
                DUE.is("lets, mirrored", x.lets(1), x.lets(0));
            }
        }
    }

    /** "It, MIRRORED. -1; -6." */
    private static void mirrorsRefused() {
        PuzzleParts x = new PuzzleParts();
        DUE.is("mirror(0) without PARTS", x.mirror(0), -1);
        Due.part(x, ".....");
        for (int none : new int[] {-1, 1, 24, LEAST, GREATEST}) {
            DUE.is("mirror(" + none + ")", x.mirror(none), -1);
        }
        Edge.fillParts(x, 23);
        DUE.is("mirror to the 24th", x.mirror(0), 23);
        DUE.is("mirror of 24", x.mirror(0), -6);
        DUE.is("mirror(24) of 24", x.mirror(24), -1);
        DUE.is("count(0)", x.count(0), 24);
    }

    /** "LESS a CELL (an OPEN one becomes BLOCKED)"; "-1 either; -3 the CELL is not OPEN, or a FACE". */
    private static void eachCellLess() {
        for (int xy = -2; xy <= 60; xy++) {
            PuzzleParts x = new PuzzleParts();
            Due.part(x, MOST);
            boolean within = xy >= 0 && xy / 10 < 5 && xy % 10 < 4;
            int at = within ? 6 * (xy % 10) + xy / 10 : 0;
            boolean open = within && MOST.charAt(at) == '.';
            DUE.is("less(0, " + xy + ")", x.less(0, xy), open ? 1 : within ? -3 : -1);
            DUE.shows(x, 0, MOST);
            if (open) {
                DUE.shows(x, 1, MOST.substring(0, at) + "#" + MOST.substring(at + 1));
                DUE.is("less of it, too", x.less(1, xy), -3);
                DUE.is("one OPEN CELL less", x.partOf(1, 3), x.partOf(0, 3) - 1);
            }
        }
        PuzzleParts x = new PuzzleParts();
        Due.part(x, ".");
        DUE.is("less of the only CELL", x.less(0, 0), 1);
        DUE.shows(x, 1, "#");
    }

    /** "-1 either; -3; -6": in this order. */
    private static void lessRefused() {
        PuzzleParts x = new PuzzleParts();
        DUE.is("less(0, 0) without PARTS", x.less(0, 0), -1);
        Due.part(x, ".0#");
        for (int none : new int[] {-1, 1, 24, LEAST, GREATEST}) {
            DUE.is("less(" + none + ", 0)", x.less(none, 0), -1);
            DUE.is("less(" + none + ", 99)", x.less(none, 99), -1);
        }
        for (int none : new int[] {-1, 1, 30, 100, LEAST, GREATEST}) {
            DUE.is("less(0, " + none + ")", x.less(0, none), -1);
        }
        Edge.fillParts(x, 23);
        DUE.is("less to the 24th", x.less(0, 0), 23);
        DUE.is("less of 24", x.less(0, 0), -6);
        DUE.is("less of 24, a FACE", x.less(0, 10), -3);
        DUE.is("less of 24, a BLOCKED one", x.less(0, 20), -3);
        DUE.is("less of 24, no CELL", x.less(0, 30), -1);
        DUE.is("less(24, 0) of 24", x.less(24, 0), -1);
        DUE.is("count(0)", x.count(0), 24);
    }

    /** "a permutation as digits; as many digits as FACES" (zeros ahead of a number are digits, too). */
    private static void renamesOfAllDigits() {
        int[] most = {120, 120, 1300, 13000, 33000, 110000};
        for (int faces = 0; faces <= 5; faces++) {
            PuzzleParts x = null;
            int calls = 512;
            for (int digits = -60; digits <= most[faces]; digits++) {
                if (x == null || calls > 400 || x.count(0) == 24) {
                    x = new PuzzleParts();
                    Due.part(x, Edge.faces(faces) + "#####".substring(faces));
                    calls = 0;
                }
                calls += 2;
                int want = isPermutation(digits, faces) ? x.count(0) : -3;
                DUE.is("rename of " + faces + " FACES to " + digits, x.rename(0, digits), want);
            }
        }
    }

    private static boolean isPermutation(int digits, int faces) {
        String text = digits == 0 ? "" : "" + digits;
        text = "0".repeat(Math.max(0, faces - text.length())) + text;
        boolean all = text.length() == faces;
        for (int face = 0; face < faces; face++) {
            all &= text.indexOf('0' + face) >= 0;
        }
        return all;
    }

    /** "FACE 0's the highest": all 120 permutations, told by the CELL of each FACE. */
    private static void eachFaceRenamed() {
        int done = 0;
        for (int digits = 0; digits <= 43210; digits++) {
            if (isPermutation(digits, 5)) {
                PuzzleParts x = new PuzzleParts();
                Due.part(x, "0.1/2.3/..4");
                String names = "" + (100000 + digits);
                DUE.is("rename to " + digits, x.rename(0, digits), 1);
                DUE.shows(x, 1, names.charAt(1) + "." + names.charAt(2) + "/" + names.charAt(3) + "." + names.charAt(4)
                        + "/.." + names.charAt(5));
                done++;
            }
        }
        DUE.is("permutations", done, 120);
        PuzzleParts x = new PuzzleParts();
        Due.part(x, "0.");
        Due.part(x, "0.1");
        Due.part(x, "01.");
        DUE.is("rename of one FACE", x.rename(0, 0), 3);
        DUE.shows(x, 3, "0.");
        DUE.is("rename to the same", x.rename(1, 1), 4);
        DUE.shows(x, 4, "0.1");
        DUE.is("rename to others", x.rename(2, 10), 5);
        DUE.shows(x, 5, "10.");
        DUE.is("lets of the one", x.lets(2), 2);
        DUE.is("lets of the other", x.lets(5), 4);
    }

    /** "-1; -3 no such permutation; -6": in this order. */
    private static void renamesRefused() {
        PuzzleParts x = new PuzzleParts();
        DUE.is("rename(0, 0) without PARTS", x.rename(0, 0), -1);
        Due.part(x, "01234");
        for (int none : new int[] {-1, 1, 24, LEAST, GREATEST}) {
            DUE.is("rename(" + none + ", 43210)", x.rename(none, 43210), -1);
            DUE.is("rename(" + none + ", 5)", x.rename(none, 5), -1);
        }
        int[] wrong = {43211, 43215, 143210, 54321, 56789, 0, 1123, -43210, -1234, LEAST, GREATEST, 1000043210};
        for (int digits : wrong) {
            DUE.is("rename(0, " + digits + ")", x.rename(0, digits), -3);
        }
        Edge.fillParts(x, 23);
        DUE.is("rename to the 24th", x.rename(0, 43210), 23);
        DUE.is("rename of 24", x.rename(0, 43210), -6);
        DUE.is("rename of 24, no permutation", x.rename(0, 43211), -3);
        DUE.is("rename(24, 0) of 24", x.rename(24, 0), -1);
        DUE.is("count(0)", x.count(0), 24);
    }

    private static void alike(String a, String b, int want) {
        PuzzleParts x = new PuzzleParts();
        Due.part(x, a);
        Due.part(x, b);
        DUE.is("alike(" + a + ", " + b + ")", x.alike(0, 1), want);
        DUE.is("alike(" + b + ", " + a + ")", x.alike(1, 0), want);
    }

    /** "by turning (also 5 HIGH) and mirroring": all eight of each, but those 5 HIGH, which are no PARTS. */
    private static void allPartsAlike() {
        for (int wide = 1; wide <= 5; wide++) {
            for (int high = 1; high <= 4; high++) {
                List<String> images = new ArrayList<>();
                String image = corner(wide, high);
                for (int turn = 0; turn < 4; turn++) {
                    images.add(image);
                    images.add(mirrored(image));
                    image = turned(image);
                }
                for (String one : images) {
                    if (one.split("/").length <= 4) {
                        alike(images.get(0), one, 1);
                        alike(images.get(1), one, 1);
                    }
                }
            }
        }
    }

    /** One CELL, one FACE or the size is other; "(FACES keep numbers)". */
    private static void partsUnlike() {
        String one = "01./..#";
        alike(one, ".10/#..", 1);
        alike(one, "..#/01.", 1);
        String[] others = {"10./..#", "01./#..", "01./...", "01./.##", "01#/..#", "0.1/..#", "0../..#", "012/..#",
            "01./..#/###", "01.#/..##", "0#/1./..", "01", "#"};
        for (String other : others) {
            alike(one, other, 0);
        }
        alike("01./..#", ".0/.1/#.", 1);
        alike("01./..#", ".1/.0/#.", 0);
        alike("01", "10", 1);
        alike("01.", "10.", 0);
        alike("01.", ".10", 1);
        alike(".", "0", 0);
        alike(".", "#", 0);
        alike("#", "#", 1);
        alike("...../...../...../.....", "..../..../..../....", 0);
        alike("0..../...../...../.....", "...../...../...../....0", 1);
        alike("0..../...../...../.....", "...../...../...../0....", 1);
        alike("0..../...../...../.....", "....0/...../...../.....", 1);
        alike("0..../...../...../.....", "...../0..../...../.....", 0);
        alike(".0../..../..../....", "..../0.../..../....", 1);
        alike(".0../..../..../....", "..../.0../..../....", 0);
        alike(".0../..../..../1...", "..../...0/..../1...", 0);
    }

    /** "ALIKE: 1, 0. -1." */
    private static void alikeRefused() {
        PuzzleParts x = new PuzzleParts();
        DUE.is("alike(0, 0) without PARTS", x.alike(0, 0), -1);
        Due.part(x, "01.");
        DUE.is("alike(0, 0)", x.alike(0, 0), 1);
        for (int none : new int[] {-1, 1, 24, LEAST, GREATEST}) {
            DUE.is("alike(" + none + ", 0)", x.alike(none, 0), -1);
            DUE.is("alike(0, " + none + ")", x.alike(0, none), -1);
            DUE.is("alike(" + none + ", " + none + ")", x.alike(none, none), -1);
        }
        DUE.is("count(11)", x.count(11), 16);
    }

    private static void needless(String text, int want) {
        PuzzleParts x = new PuzzleParts();
        Due.part(x, text);
        DUE.is("needless of " + text, x.needless(0), want);
        DUE.is("count(0) after it", x.count(0), 1);
        DUE.shows(x, 0, text);
    }

    /** "OPEN CELLS (no FACES) without which it LETS the same, as bits (5 y and x): each alone". */
    private static void needlessEnds() {
        needless("#", 0);
        needless("0", 0);
        needless("01234", 0);
        // without both it LETS the same, but without one it does not
        needless("..", 0);
        needless("0..", 0);
        // nothing is LET, with a CELL and without it: FACES are not told for all that
        needless(".#.", 1 | 1 << 2);
        needless("...", 1 << 1);
        needless(".#./###/.#.", 1 | 1 << 2 | 1 << 10 | 1 << 12);
        // without it the STATE is LET where both FACES jut out
        needless("0#1/###/.##", 0);
        // the first bit and the last one, three more in the corners: none is LET whatever is taken
        needless(".###./#####/#####/.###.", 1 | 1 << 4 | 1 << 15 | 1 << 19);
        needless("####./#####/#####/#####", 0);
        needless("..../####/####/...#", 0b1111 | 1 << 16);
        needless("###/##./###/.#.", 1 << 7 | 1 << 15 | 1 << 17);
        // a LET STATE that would be lost, and one that would come
        needless("0.", 0);
        needless("0../#..", 0);
    }

    /** "NEEDLESS. -1." */
    private static void needlessRefused() {
        PuzzleParts x = new PuzzleParts();
        for (int none : new int[] {-1, 0, 24, LEAST, GREATEST}) {
            DUE.is("needless(" + none + ")", x.needless(none), -1);
        }
        Due.part(x, ".#.");
        DUE.is("needless(0)", x.needless(0), 5);
        DUE.is("needless(1)", x.needless(1), -1);
        DUE.is("count(11)", x.count(11), 6);
    }

    /** "PARTS have numbers from 0 on (24 at most)": each kind of new PART may be the last one, and none more. */
    private static void lastNumbers() {
        PuzzleParts x = new PuzzleParts();
        Due.part(x, "0./1.");
        for (int made = 1; made < 24; made++) {
            int kind = made % 3;
            int part = kind == 0 ? x.rename(made - 1, 10) : kind == 1 ? x.turn(made - 1) : x.mirror(made - 1);
            DUE.is("a PART made of " + (made - 1), part, made);
            DUE.is("FACES of " + part, x.partOf(part, 2), 2);
        }
        DUE.is("turn of 24", x.turn(0), -6);
        DUE.is("mirror of 24", x.mirror(0), -6);
        DUE.is("less of 24", x.less(0, 10), -6);
        DUE.is("rename of 24", x.rename(0, 10), -6);
        DUE.is("part of 24", Due.part(x, "."), -6);
        DUE.is("alike of 24", x.alike(22, 23), 1);
        DUE.is("needless of 24", x.needless(23), 0);
        DUE.is("partOf(24, 0)", x.partOf(24, 0), -1);
        DUE.is("count(16)", x.count(16), 5);
    }
}
