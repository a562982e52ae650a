/** Boundary cases of THE TAPE, BOARDS, STATES, TILINGS and COLOURS (I.; promises 1 to 9), a sentence each. */
public final class EdgesOfBoardsTest {
    private static final Due DUE = new Due("EdgesOfBoardsTest");
    private static final int LEAST = Integer.MIN_VALUE;
    private static final int GREATEST = Integer.MAX_VALUE;

    public static void main(String[] args) {
        noParts();
        feedOfEachNumber();
        feedLowestFirst();
        sizes();
        cellsTold();
        downwards();
        firstByte();
        secondByte();
        eachFaceOnce();
        gaps();
        linesOfOneLength();
        fifthLine();
        longestText();
        firstOfSeveral();
        faultsCountNothing();
        partNumbers();
        partOfEnds();
        statesOfFaces();
        faceZeroLowest();
        tilingOfNothing();
        dominoesStayInside();
        highestBit();
        coveredEnds();
        coveredBySearch();
        barredEnds();
        DUE.end();
    }

    /** "No PARTS." */
    private static void noParts() {
        PuzzleParts x = new PuzzleParts();
        for (int what = 0; what <= 5; what++) {
            DUE.is("count(" + what + ") of a new object", x.count(what), 0);
        }
        DUE.is("lets(0) of a new object", x.lets(0), 4000000000000000001L);
        DUE.is("part() of a new object: THE TAPE is empty", x.part(), -20);
        DUE.is("formula() of a new object: THE TAPE is empty", x.formula(), -20);
        DUE.is("floorNet() of a new object", x.floorNet(), -3);
        DUE.is("the first PART", Due.part(x, "."), 0);
    }

    /** "n (1 .. 8) bytes come: how many THE TAPE has. -4; -6 (n; above 40)." */
    private static void feedOfEachNumber() {
        for (int has = 0; has <= 40; has++) {
            for (int n = -1; n <= 10; n++) {
                PuzzleParts x = new PuzzleParts();
                Edge.fillTape(x, has);
                int want = n < 1 ? -4 : n > 8 || has + n > 40 ? -6 : has + n;
                DUE.is("feed(" + n + ", 0) onto " + has, x.feed(n, 0), want);
                DUE.is("count(4) after feed(" + n + ", 0) onto " + has, x.count(4), want < 0 ? has : want);
            }
        }
    }

    /** "the lowest first"; what stands above the n bytes does not come. */
    private static void feedLowestFirst() {
        String text = "a&!b|!a&";
        long[] means = {0b1010, 0, 0, 0b0010, 0, 0, 0b0111, 0};
        int[] fault = {-1, 2, 3, -1, 5, 6, -1, 8};
        for (int n = 1; n <= 8; n++) {
            PuzzleParts x = new PuzzleParts();
            x.feed(n, Due.bytes(text));
            DUE.is("formula() of " + text.substring(0, n), x.formula(), fault[n - 1] < 0 ? 0 : -20 - fault[n - 1]);
            if (fault[n - 1] < 0) {
                DUE.is("means of " + text.substring(0, n), x.means(0, 2), means[n - 1]);
            }
        }
        PuzzleParts x = new PuzzleParts();
        x.feed(1, Due.bytes("#") | -256L);
        DUE.is("part() of the lowest byte alone", x.part(), 0);
        DUE.shows(x, 0, "#");
        x.feed(8, Due.bytes("0.#./..") | 0xB1L << 56);
        DUE.is("part() with a byte 177 as the eighth", x.part(), -27);
        x.feed(8, Due.bytes("0.#./..") | 0x31L << 56);
        x.feed(1, Due.bytes("."));
        DUE.is("part() with the eighth byte", x.part(), 1);
        DUE.shows(x, 1, "0.#./..1.");
    }

    private static void stands(String text) {
        PuzzleParts x = new PuzzleParts();
        DUE.is("part() of " + text, Due.part(x, text), 0);
        DUE.shows(x, 0, text);
    }

    private static void fault(String text, int place) {
        PuzzleParts x = new PuzzleParts();
        DUE.is("part() of " + text, Due.part(x, text), -20 - place);
        DUE.is("count(0) after " + text, x.count(0), 0);
    }

    /** "A BOARD is WIDE (1 .. 5) and HIGH (1 .. 4)"; "a sixth CELL, a fifth LINE: its own, the "/" ahead". */
    private static void sizes() {
        for (int wide = 0; wide <= 7; wide++) {
            for (int high = 1; (wide + 1) * high <= 41; high++) {
                String text = Edge.plain(wide, high);
                if (wide == 0) {
                    fault(text, 0);
                } else if (wide > 5) {
                    fault(text, 5);
                } else if (high > 4) {
                    fault(text, 4 * wide + 3);
                } else {
                    stands(text);
                }
            }
        }
    }

    /** "CELLS x, y (told 10 x and y)"; "-1 either". */
    private static void cellsTold() {
        int[][] sizes = {{1, 1}, {5, 1}, {1, 4}, {5, 4}, {4, 3}, {2, 2}};
        for (int[] size : sizes) {
            PuzzleParts x = new PuzzleParts();
            Due.part(x, Edge.plain(size[0], size[1]));
            for (int xy = -12; xy <= 130; xy++) {
                boolean within = xy >= 0 && xy / 10 < size[0] && xy % 10 < size[1];
                DUE.is("cell(0, " + xy + ") of " + size[0] + " by " + size[1], x.cell(0, xy), within ? 1 : -1);
            }
            DUE.is("cell(0, least)", x.cell(0, LEAST), -1);
            DUE.is("cell(0, greatest)", x.cell(0, GREATEST), -1);
            DUE.is("cell(-1, 0)", x.cell(-1, 0), -1);
            DUE.is("cell(1, 0)", x.cell(1, 0), -1);
        }
    }

    /** "y downwards"; "0 BLOCKED, 1 OPEN, 10 and the FACE". */
    private static void downwards() {
        PuzzleParts x = new PuzzleParts();
        Due.part(x, "#.432/...../...../10.##");
        int[][] due = {{0, 0}, {10, 1}, {20, 14}, {30, 13}, {40, 12}, {3, 11}, {13, 10}, {23, 1}, {33, 0}, {43, 0}};
        for (int[] one : due) {
            DUE.is("cell(0, " + one[0] + ")", x.cell(0, one[0]), one[1]);
        }
    }

    /** "BLOCKED, OPEN, or a FACE"; "a FACE above 4: its own"; the empty LINE; the gap ahead of FACE 1. */
    private static void firstByte() {
        for (int sign = 0; sign < 256; sign++) {
            String text = "" + (char) sign;
            if (sign == '#' || sign == '.' || sign == '0') {
                stands(text);
            } else {
                fault(text, sign >= '1' && sign <= '4' ? 1 : 0);
            }
        }
    }

    /** The same behind an OPEN CELL and behind FACE 0. */
    private static void secondByte() {
        for (int sign = 0; sign < 256; sign++) {
            String open = "." + (char) sign;
            String face = "0" + (char) sign;
            boolean plain = sign == '#' || sign == '.';
            boolean ends = sign == '/' || sign >= '2' && sign <= '4';
            if (plain || sign == '0') {
                stands(open);
            } else {
                fault(open, ends || sign == '1' ? 2 : 1);
            }
            if (plain || sign == '1') {
                stands(face);
            } else {
                fault(face, ends ? 2 : 1);
            }
        }
    }

    /** "FACES 0 .. 4, each once"; "one that came already: its own". */
    private static void eachFaceOnce() {
        String all = Edge.plain(5, 4);
        for (int first = 0; first < all.length(); first++) {
            for (int second = first + 1; second < all.length(); second++) {
                if (all.charAt(first) == '.' && all.charAt(second) == '.') {
                    StringBuilder text = new StringBuilder(all);
                    text.setCharAt(first, '0');
                    text.setCharAt(second, '0');
                    fault(text.toString(), second);
                    text.setCharAt(second, '1');
                    stands(text.toString());
                }
            }
        }
        for (int face = 0; face <= 4; face++) {
            fault("01234/" + face + "....", 6);
            fault("01234/...." + face, 10);
        }
        stands("01234/.....");
    }

    /** "numbers without gaps (none: no FACES)"; "of a gap in FACES: the end". */
    private static void gaps() {
        for (int chosen = 0; chosen < 32; chosen++) {
            StringBuilder upwards = new StringBuilder();
            StringBuilder downwards = new StringBuilder();
            for (int face = 0; face < 5; face++) {
                upwards.append((chosen >> face & 1) != 0 ? "" + face : ".");
                downwards.append((chosen >> (4 - face) & 1) != 0 ? "" + (4 - face) : ".");
            }
            boolean gap = (chosen & (chosen + 1)) != 0;
            for (String text : new String[] {upwards.toString(), downwards.toString(), upwards + "/....."}) {
                if (gap) {
                    fault(text, text.length());
                } else {
                    stands(text);
                    PuzzleParts x = new PuzzleParts();
                    Due.part(x, text);
                    DUE.is("FACES of " + text, x.partOf(0, 2), Integer.bitCount(chosen));
                }
            }
        }
    }

    /** "all as long as the first"; "the end, if something lacks: a LINE is too short"; one CELL more: its own. */
    private static void linesOfOneLength() {
        for (int wide = 1; wide <= 5; wide++) {
            for (int second = 0; second <= 6; second++) {
                String text = ".".repeat(wide) + "/" + ".".repeat(second);
                int end = text.length();
                if (second < wide) {
                    fault(text, end);
                    fault(text + "/" + ".".repeat(wide), end);
                    fault(text + "#/", second + 1 < wide ? end + 1 : end + 2);
                    fault(text + "x", end);
                } else if (second > wide) {
                    fault(text, 2 * wide + 1);
                    fault(text + "/" + ".".repeat(wide), 2 * wide + 1);
                } else {
                    stands(text);
                    stands(text + "/" + ".".repeat(wide));
                    fault(text + "/", end + 1);
                    fault(text + "/" + ".".repeat(wide - 1), end + wide);
                    fault(text + "//", end + 1);
                }
            }
        }
    }

    /** "a fifth LINE: the "/" ahead", whether there is something behind it or not. */
    private static void fifthLine() {
        for (int wide = 1; wide <= 5; wide++) {
            String four = Edge.plain(wide, 4);
            stands(four);
            fault(four + "/", four.length());
            fault(four + "/.", four.length());
            fault(four + "//", four.length());
            fault(four + ".", four.length());
            fault(Edge.plain(wide, 3) + "/", 3 * wide + 3);
        }
    }

    /** "a TEXT (40 bytes at most)": the empty one, and one of 40. */
    private static void longestText() {
        fault("", 0);
        fault("/".repeat(40), 0);
        fault("#".repeat(40), 5);
        fault(Edge.plain(5, 4) + "/" + "...../...../....", 23);
        fault(Edge.plain(1, 4) + "/." + "#".repeat(31), 7);
        fault("0/1/2/3/4" + "/".repeat(31), 7);
        stands("0..../1..../2..../3...4");
    }

    /** "the place of the first byte that can not stand". */
    private static void firstOfSeveral() {
        fault("x5", 0);
        fault("5x", 0);
        fault("1x", 1);
        fault("00x", 1);
        fault("1.../..x", 7);
        fault("2./.", 4);
        fault("2./..", 5);
        fault("0./0", 3);
        fault("0./.", 4);
        fault("......5", 5);
        fault("../.../x", 5);
        fault("../.x/..", 4);
        fault("../x/...", 3);
        fault("......", 5);
        fault(".....0", 5);
        fault("....00", 5);
        fault("...00.", 4);
    }

    /** "if it has a FAULT, -20 less its place (nothing is counted; THE TAPE has none, too)". */
    private static void faultsCountNothing() {
        String[] texts = {"", "x", "./", "......", "1"};
        for (String text : texts) {
            PuzzleParts x = new PuzzleParts();
            Due.part(x, "..");
            Due.part(x, text);
            for (int what = 11; what <= 16; what++) {
                DUE.is("count(" + what + ") after " + text, x.count(what), 0);
            }
            DUE.is("count(0) after " + text, x.count(0), 1);
            DUE.is("count(4) after " + text, x.count(4), 0);
            DUE.is("feed(1) after " + text, x.feed(1, '.'), 1);
            DUE.is("part() after " + text, x.part(), 1);
            DUE.is("count(4) after a PART", x.count(4), 0);
            DUE.is("part() of nothing", x.part(), -20);
        }
    }

    /** "PARTS have numbers from 0 on (24 at most)"; "(Refused: THE TAPE stays.)" */
    private static void partNumbers() {
        PuzzleParts x = new PuzzleParts();
        for (int part = 0; part < 24; part++) {
            DUE.is("lets(" + part + ") ahead", x.lets(part), 4000000000000000001L);
            DUE.is("part() of " + part, Due.part(x, part % 2 == 0 ? ".0" : "#"), part);
            DUE.is("lets(" + part + ")", x.lets(part), 1);
        }
        x.feed(1, '0');
        DUE.is("part() of 24", x.part(), -6);
        DUE.is("part() of 24 again", x.part(), -6);
        DUE.is("count(0)", x.count(0), 24);
        DUE.is("count(4): it stays", x.count(4), 1);
        DUE.is("lets(24)", x.lets(24), 4000000000000000001L);
        DUE.is("formula() reads what stayed", x.formula(), 0);
        DUE.is("means(0, 0)", x.means(0, 0), 0);
        DUE.is("part() of 24, THE TAPE empty", x.part(), -6);
        DUE.is("count(16)", x.count(16), 3);
    }

    /** "0 WIDE, 1 HIGH, 2 FACES, 3 OPEN CELLS and FACES. -1; -2." */
    private static void partOfEnds() {
        String[] texts = {"#", ".", "0", "#####/#####/#####/#####", "...../...../...../.....", "01234", "0.#/#.1"};
        int[][] due = {{1, 1, 0, 0}, {1, 1, 0, 1}, {1, 1, 1, 1}, {5, 4, 0, 0}, {5, 4, 0, 20}, {5, 1, 5, 5}, {3, 2, 2, 4}};
        PuzzleParts x = new PuzzleParts();
        for (int part = 0; part < texts.length; part++) {
            Due.part(x, texts[part]);
            for (int what = 0; what <= 3; what++) {
                DUE.is("partOf(" + texts[part] + ", " + what + ")", x.partOf(part, what), due[part][what]);
            }
            DUE.is("partOf(" + texts[part] + ", -1)", x.partOf(part, -1), -2);
            DUE.is("partOf(" + texts[part] + ", 4)", x.partOf(part, 4), -2);
            DUE.is("partOf of one beyond", x.partOf(part + 1, 0), -1);
        }
        DUE.is("partOf(-1, 0)", x.partOf(-1, 0), -1);
        DUE.is("partOf(0, least)", x.partOf(0, LEAST), -2);
        DUE.is("partOf(0, greatest)", x.partOf(0, GREATEST), -2);
    }

    /** "A STATE of FACES: bits": of 0 FACES the one STATE 0, of 5 FACES 0 .. 31. */
    private static void statesOfFaces() {
        for (int faces = 0; faces <= 5; faces++) {
            PuzzleParts x = new PuzzleParts();
            Due.part(x, faces == 0 ? "." : Edge.faces(faces));
            for (int state = -2; state <= 34; state++) {
                boolean is = state >= 0 && state < 1 << faces;
                String told = state + " of " + faces + " FACES";
                DUE.is("ways in STATE " + told, x.ways(0, state) == -1 ? 0 : 1, is ? 1 : 0);
                DUE.is("covered in STATE " + told, x.covered(0, state, 0) == -1 ? 0 : 1, is ? 1 : 0);
            }
            DUE.is("ways in STATE 64", x.ways(0, 64), -1);
            DUE.is("ways in STATE greatest", x.ways(0, GREATEST), -1);
            DUE.is("ways in STATE least", x.ways(0, LEAST), -1);
            DUE.is("covered in STATE least", x.covered(0, LEAST, 0), -1);
            DUE.is("no STATE beyond in LETS", x.lets(0) >> (1 << faces), 0);
            DUE.is("no STATE beyond in BARRED", x.barred(0) >> (1 << faces), 0);
        }
    }

    /** "face 0 the lowest: 1: a domino juts out of it (its CELL is covered by that), 0 not". */
    private static void faceZeroLowest() {
        lets("0.", 0b0001, 0b0010);
        lets("0#", 0b0010, 0b0001);
        lets("10.", 0b0100, 0b1011);
        lets("01.", 0b0010, 0b1101);
        lets("2#1#0", 1 << 7, (1 << 7) - 1);
        lets("0#1/#2#/3#4", 1L << 31, (1L << 31) - 1);
    }

    private static void lets(String text, long lets, long barred) {
        PuzzleParts x = new PuzzleParts();
        Due.part(x, text);
        DUE.is("lets of " + text, x.lets(0), lets);
        DUE.is("barred of " + text, x.barred(0), barred);
    }

    /** How many more light CELLS than dark ones are to be covered. */
    private static int lightLessDark(String text, int state) {
        int more = 0;
        int x = 0;
        int y = 0;
        for (char sign : text.toCharArray()) {
            boolean toCover = sign == '.' || Character.isDigit(sign) && (state >> (sign - '0') & 1) == 0;
            more += !toCover ? 0 : (x + y) % 2 == 0 ? 1 : -1;
            x = sign == '/' ? 0 : x + 1;
            y += sign == '/' ? 1 : 0;
        }
        return more;
    }

    /** "dominoes that cover all OPEN CELLS, and FACES of 0": where there are none, there is one TILING. */
    private static void tilingOfNothing() {
        String[] texts = {"#", "#####/#####/#####/#####", "0", "01234", "0#1/###/#2#"};
        int[] states = {0, 0, 1, 31, 7};
        for (int i = 0; i < texts.length; i++) {
            PuzzleParts x = new PuzzleParts();
            Due.part(x, texts[i]);
            DUE.is("ways of " + texts[i], x.ways(0, states[i]), 1);
            DUE.is("lets of " + texts[i], x.lets(0) >> states[i] & 1, 1);
            DUE.is("barred of " + texts[i], x.barred(0) >> states[i] & 1, 0);
        }
        PuzzleParts x = new PuzzleParts();
        Due.part(x, "...../...../...../.....");
        DUE.is("ways of the largest BOARD", x.ways(0, 0), 95);
    }

    /** "dominoes (two CELLS beside each other by a side)": no corner, no LINE's end with the next one's beginning. */
    private static void dominoesStayInside() {
        String[] none = {".#/#.", "#./.#", "####./.####", "##./.##", "#./.#", ".#.", "./#/.", "...#./.####"};
        for (String text : none) {
            PuzzleParts x = new PuzzleParts();
            Due.part(x, text);
            DUE.is("lets of " + text, x.lets(0), 0);
            DUE.is("ways of " + text, x.ways(0, 0), 0);
            DUE.is("covered of " + text, x.covered(0, 0, 0), -9);
        }
        String[] one = {"###../#####", "####./####.", "./.", "..", "#####/#####/####./####.", "#####/#####/#####/##..#"};
        for (String text : one) {
            PuzzleParts x = new PuzzleParts();
            Due.part(x, text);
            DUE.is("ways of " + text, x.ways(0, 0), 1);
        }
    }

    /** "(a long: bit s for STATE s)": STATE 31 is no sign. */
    private static void highestBit() {
        PuzzleParts x = new PuzzleParts();
        Due.part(x, "01234");
        Due.part(x, "01234/.####");
        DUE.is("lets in STATE 31", x.lets(0) >> 31, 1);
        DUE.is("barred in STATE 31", x.barred(1) >> 31, 1);
        DUE.is("lets, where one CELL is left", x.lets(1) >> 31, 0);
    }

    /** "0 nothing (BLOCKED), 1 to the right, 2 down, 3 to the left, 4 up, 5 juts out"; "-9 there is no TILING. -1 any." */
    private static void coveredEnds() {
        PuzzleParts x = new PuzzleParts();
        Due.part(x, "0#..1/##.#./####.");
        int[][] due = {{0, 5}, {10, 0}, {20, 2}, {30, 1}, {40, 3}, {21, 4}, {41, 2}, {42, 4}, {2, 0}};
        DUE.is("ways(0, 1)", x.ways(0, 1), 1);
        for (int[] one : due) {
            DUE.is("covered(0, 1, " + one[0] + ")", x.covered(0, 1, one[0]), one[1]);
        }
        for (int state = 0; state <= 3; state += state == 0 ? 2 : 1) {
            DUE.is("covered(0, " + state + ", 0)", x.covered(0, state, 0), -9);
            DUE.is("covered(0, " + state + ", 10): a BLOCKED one", x.covered(0, state, 10), -9);
            DUE.is("covered(0, " + state + ", 40)", x.covered(0, state, 40), -9);
            DUE.is("covered(0, " + state + ", 50): no such CELL", x.covered(0, state, 50), -1);
        }
        for (int state = 0; state < 32; state++) {
            PuzzleParts five = new PuzzleParts();
            Due.part(five, "0#1/#2#/3#4");
            for (int face = 0; face < 5; face++) {
                int xy = new int[] {0, 20, 11, 2, 22}[face];
                DUE.is("covered of FACE " + face + " in STATE " + state, five.covered(0, state, xy), state == 31 ? 5 : -9);
            }
            PuzzleParts pairs = new PuzzleParts();
            Due.part(pairs, "0...1/.#2#./3...4/.###.");
            boolean let = pairs.ways(0, state) > 0;
            for (int face = 0; face < 5; face++) {
                int code = pairs.covered(0, state, new int[] {0, 40, 21, 2, 42}[face]);
                boolean juts = (state >> face & 1) != 0;
                DUE.is("FACE " + face + " juts out in STATE " + state, code == -9 ? -9 : code == 5 ? 5 : 0,
                        let ? juts ? 5 : 0 : -9);
            }
        }
        int[] beyond = {-1, 3, 9, 43, 50, 99, 100, LEAST, GREATEST};
        for (int xy : beyond) {
            DUE.is("covered(0, 1, " + xy + ")", x.covered(0, 1, xy), -1);
        }
        DUE.is("covered(1, 1, 0)", x.covered(1, 1, 0), -1);
        DUE.is("covered(-1, 1, 0)", x.covered(-1, 1, 0), -1);
        DUE.is("covered(0, 4, 0)", x.covered(0, 4, 0), -1);
        DUE.is("count(11)", x.count(11), 3 + beyond.length + 3);
    }

    /** "each by a domino to the right, if that may be, else down; by search, the first that can be ended". */
    private static void coveredBySearch() {
        String[][] due = {{"../..", "13/13"}, {"./.", "2/4"}, {"...../...../...../.....", "13132/13134/13132/13134"},
            {".../...", "132/134"}, {"..#/...", "2"}, {"..../.##.", "2132/4004"}, {".../.../..#/..#", "132/134/130/130"},
            {"#..../...../.....", "01313/13132/13134"}, {"..../..../#..#", "1313/1313/0130"}};
        for (String[] one : due) {
            PuzzleParts x = new PuzzleParts();
            Due.part(x, one[0]);
            boolean none = one[1].length() < one[0].length();
            for (int i = 0; i < one[0].length(); i++) {
                int xy = 10 * (i % (x.partOf(0, 0) + 1)) + i / (x.partOf(0, 0) + 1);
                if (one[0].charAt(i) != '/') {
                    DUE.is("covered(" + one[0] + ", 0, " + xy + ")", x.covered(0, 0, xy),
                            none ? -9 : one[1].charAt(i) - '0');
                }
            }
        }
    }

    /** "CELLS with x and y even together are light, others dark"; BARRED by one more light, one more dark, and equal. */
    private static void barredEnds() {
        String[] texts = {"...", "#./..", ".#/..", "..", "...../...../.....", "...../...../...../.....", "0", "#0",
            "01", "#", ".#.#.", "#.#.#", ".##.", "01234/...../...../.....", "0#1#2/#3#4#", "...../0..../1..../234.."};
        for (String text : texts) {
            PuzzleParts x = new PuzzleParts();
            Due.part(x, text);
            long due = 0;
            for (int state = 0; state < 1 << x.partOf(0, 2); state++) {
                due |= lightLessDark(text, state) != 0 ? 1L << state : 0;
            }
            DUE.is("barred of " + text, x.barred(0), due);
            DUE.is("lets of BARRED STATES of " + text, x.lets(0) & due, 0);
        }
        PuzzleParts x = new PuzzleParts();
        DUE.is("barred(0)", x.barred(0), 4000000000000000001L);
        Due.part(x, "0");
        DUE.is("barred(-1)", x.barred(-1), 4000000000000000001L);
        DUE.is("barred(1)", x.barred(1), 4000000000000000001L);
        DUE.is("lets(least)", x.lets(LEAST), 4000000000000000001L);
        DUE.is("lets(greatest)", x.lets(GREATEST), 4000000000000000001L);
    }
}
