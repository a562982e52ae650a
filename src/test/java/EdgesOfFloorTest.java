/** Boundary cases of THE FLOOR (V.; promises 29 to 34), a sentence each. */
public final class EdgesOfFloorTest {
    private static final Due DUE = new Due("EdgesOfFloorTest");
    private static final int LEAST = Integer.MIN_VALUE;
    private static final int GREATEST = Integer.MAX_VALUE;
    private static final String[] TEXTS = {".", "0", "#", "01", "01234", "#0#/1.2/#3#", "...../...../...../.....",
        "0#/#1", "0.", "####0/#####/#####/1####"};
    private static final int DOT = 0;
    private static final int ONE = 1;
    private static final int BLOCKED = 2;
    private static final int TWO = 3;
    private static final int FIVE = 4;
    private static final int CROSS = 5;
    private static final int LARGE = 6;
    private static final int CORNERS = 7;
    private static final int STEM = 8;
    private static final int FAR = 9;

    public static void main(String[] args) {
        layOfAllPlaces();
        layRefusedInOrder();
        tenLaid();
        overlapOfNone();
        overlapOfCellsNotBlocked();
        overlapFirstOfPairs();
        overlapInCorners();
        meetsOfNeighbours();
        meetsFirst();
        meetsNoOwn();
        meetsRefused();
        leakByFaces();
        leakByOpenCells();
        leakOfFirst();
        leakBeyondEdges();
        netOfNothing();
        netRefusedInOrder();
        eightPieces();
        twelveLinks();
        lastLinks();
        sixNets();
        netOfFloorStays();
        linksOfFloor();
        clears();
        DUE.end();
    }

    /** PARTS LAID, three numbers each: PART, x, y. */
    private static PuzzleParts with(int... laid) {
        PuzzleParts x = new PuzzleParts();
        for (String text : TEXTS) {
            Due.part(x, text);
        }
        for (int i = 0; i + 2 < laid.length; i += 3) {
            x.lay(laid[i], laid[i + 1], laid[i + 2]);
        }
        return x;
    }

    /** "WIDE and HIGH 12"; "all within"; "-4; -6 (not within THE FLOOR)". */
    private static void layOfAllPlaces() {
        for (int part = 0; part < TEXTS.length; part++) {
            int wide = with().partOf(part, 0);
            int high = with().partOf(part, 1);
            for (int left = -2; left <= 13; left++) {
                for (int top = -2; top <= 13; top++) {
                    PuzzleParts x = with();
                    int want = left < 0 || top < 0 ? -4 : left + wide > 12 || top + high > 12 ? -6 : 0;
                    String call = "lay(" + TEXTS[part] + ", " + left + ", " + top + ")";
                    DUE.is(call, x.lay(part, left, top), want);
                    DUE.is("count(3) after " + call, x.count(3), want == 0 ? 1 : 0);
                }
            }
        }
        int[] odd = {LEAST, GREATEST, GREATEST - 4, 12};
        for (int left : odd) {
            for (int top : odd) {
                int want = left < 0 || top < 0 ? -4 : -6;
                DUE.is("lay(0, " + left + ", " + top + ")", with().lay(DOT, left, top), want);
                DUE.is("lay(LARGE, " + left + ", " + top + ")", with().lay(LARGE, left, top), want);
            }
        }
    }

    /** "-1; -4; -6 (not within THE FLOOR, 10)". */
    private static void layRefusedInOrder() {
        PuzzleParts x = with();
        for (int none : new int[] {-1, TEXTS.length, 24, LEAST, GREATEST}) {
            DUE.is("lay(" + none + ", 0, 0)", x.lay(none, 0, 0), -1);
            DUE.is("lay(" + none + ", -1, 0)", x.lay(none, -1, 0), -1);
            DUE.is("lay(" + none + ", 0, 12)", x.lay(none, 0, 12), -1);
        }
        DUE.is("lay(0, -1, 12)", x.lay(DOT, -1, 12), -4);
        DUE.is("lay(0, 12, -1)", x.lay(DOT, 12, -1), -4);
        DUE.is("lay(0, 12, 0)", x.lay(DOT, 12, 0), -6);
        for (int i = 0; i < 10; i++) {
            x.lay(DOT, i, 5);
        }
        DUE.is("lay of 10, no PART", x.lay(TEXTS.length, 0, 0), -1);
        DUE.is("lay of 10, below", x.lay(DOT, 0, -1), -4);
        DUE.is("lay of 10, beyond", x.lay(DOT, 0, 12), -6);
        DUE.is("lay of 10", x.lay(DOT, 0, 0), -6);
        DUE.is("count(11)", x.count(11), 16);
        DUE.is("count(14)", x.count(14), 3);
        DUE.is("count(16)", x.count(16), 3);
    }

    /** "(10 at most": 9, 10 and 11, and 10 again when THE FLOOR is cleared. */
    private static void tenLaid() {
        PuzzleParts x = with();
        for (int round = 0; round < 2; round++) {
            for (int i = 0; i < 10; i++) {
                DUE.is("meets(" + i + ", 0) ahead", x.meets(i, 0), -1);
                DUE.is("lay of " + i, x.lay(ONE, i, 11 - i), i);
                DUE.is("meets(" + i + ", 0)", x.meets(i, 0), -9);
            }
            DUE.is("lay of 10", x.lay(ONE, 11, 11), -6);
            DUE.is("meets(10, 0)", x.meets(10, 0), -1);
            DUE.is("count(3)", x.count(3), 10);
            DUE.is("clear()", x.clear(), 10);
        }
    }

    /** "-9 none". */
    private static void overlapOfNone() {
        DUE.is("overlap of nothing", with().overlap(), -9);
        DUE.is("overlap of one", with(LARGE, 0, 0).overlap(), -9);
        DUE.is("overlap side by side", with(LARGE, 0, 0, LARGE, 5, 0, LARGE, 0, 4, LARGE, 5, 4).overlap(), -9);
        DUE.is("overlap by one column", with(LARGE, 0, 0, LARGE, 4, 0).overlap(), 1);
        DUE.is("overlap by one line", with(LARGE, 0, 0, LARGE, 0, 3).overlap(), 1);
        DUE.is("overlap by one CELL", with(LARGE, 0, 0, LARGE, 4, 3).overlap(), 1);
        DUE.is("no overlap by a corner", with(LARGE, 0, 0, LARGE, 5, 4).overlap(), -9);
    }

    /** "that have a CELL that is not BLOCKED in common": BLOCKED with any is none; OPEN and FACES are. */
    private static void overlapOfCellsNotBlocked() {
        int[] kinds = {BLOCKED, DOT, ONE};
        for (int first : kinds) {
            for (int second : kinds) {
                int want = first == BLOCKED || second == BLOCKED ? -9 : 1;
                DUE.is("overlap of kinds " + first + " and " + second, with(first, 3, 3, second, 3, 3).overlap(), want);
            }
        }
        DUE.is("overlap of the BLOCKED corner", with(CROSS, 3, 3, DOT, 3, 3, DOT, 5, 5).overlap(), -9);
        DUE.is("overlap of the middle", with(CROSS, 3, 3, DOT, 4, 4).overlap(), 1);
        DUE.is("overlap of a FACE", with(CROSS, 3, 3, ONE, 4, 5).overlap(), 1);
        DUE.is("overlap of BLOCKED CELLS alone", with(CORNERS, 0, 0, CORNERS, 1, 0).overlap(), -9);
        DUE.is("overlap of two CROSSES by their FACES", with(CROSS, 0, 0, CROSS, 2, 0).overlap(), 1);
        DUE.is("no overlap of two CROSSES", with(CROSS, 0, 0, CROSS, 2, 1).overlap(), -9);
    }

    /** "the first two (by numbers, the first of them least)". */
    private static void overlapFirstOfPairs() {
        for (int first = 0; first < 10; first++) {
            for (int second = first + 1; second < 10; second++) {
                PuzzleParts x = with();
                for (int i = 0; i < 10; i++) {
                    int at = i == second ? first : i;
                    x.lay(i % 2 == 0 ? DOT : ONE, at, at);
                }
                DUE.is("overlap of " + first + " and " + second, x.overlap(), 10 * first + second);
            }
        }
        DUE.is("overlap of all", with(DOT, 0, 0, DOT, 0, 0, DOT, 0, 0).overlap(), 1);
        DUE.is("overlap: 03 ahead of 12", with(DOT, 0, 0, DOT, 1, 1, DOT, 1, 1, DOT, 0, 0).overlap(), 3);
        DUE.is("overlap: 12 ahead of 13", with(DOT, 0, 0, DOT, 1, 1, DOT, 1, 1, DOT, 1, 1).overlap(), 12);
        DUE.is("overlap: 03 ahead of 04", with(TWO, 0, 0, DOT, 5, 5, DOT, 6, 6, DOT, 1, 0, DOT, 0, 0).overlap(), 3);
    }

    /** "WIDE and HIGH 12": the corners are CELLS as others are. */
    private static void overlapInCorners() {
        int[][] corners = {{0, 0}, {11, 0}, {0, 11}, {11, 11}};
        for (int[] at : corners) {
            PuzzleParts x = with(DOT, at[0], at[1]);
            DUE.is("overlap of one in a corner", x.overlap(), -9);
            for (int[] other : corners) {
                if (other != at) {
                    x.lay(DOT, other[0], other[1]);
                }
            }
            DUE.is("overlap of four in corners", x.overlap(), -9);
            x.lay(ONE, at[0], at[1]);
            DUE.is("overlap in a corner", x.overlap(), 4);
        }
        DUE.is("overlap of the last CELLS", with(LARGE, 7, 8, DOT, 11, 11).overlap(), 1);
    }

    /** "MEET: FACES of two LAID ones whose CELLS are beside each other by a side": all places round one. */
    private static void meetsOfNeighbours() {
        for (int left = 2; left <= 8; left++) {
            for (int top = 2; top <= 8; top++) {
                PuzzleParts x = with(ONE, 5, 5, ONE, left, top);
                boolean beside = Math.abs(left - 5) + Math.abs(top - 5) == 1;
                DUE.is("meets(0, 0) with one at " + left + ", " + top, x.meets(0, 0), beside ? 10 : -9);
                DUE.is("meets(1, 0) with one at " + left + ", " + top, x.meets(1, 0), beside ? 0 : -9);
                DUE.is("leak with one at " + left + ", " + top, x.leak(), -9);
                PuzzleParts y = with(ONE, 5, 5, DOT, left, top);
                DUE.is("meets(0, 0) with an OPEN CELL", y.meets(0, 0), -9);
                DUE.is("leak with an OPEN CELL at " + left + ", " + top, y.leak(), beside ? 1 : -9);
            }
        }
        DUE.is("meets across the right edge", with(ONE, 11, 3, ONE, 0, 4).meets(0, 0), -9);
        DUE.is("meets across the left edge", with(ONE, 0, 4, ONE, 11, 3).meets(0, 0), -9);
        DUE.is("meets across the top", with(ONE, 4, 0, ONE, 4, 11).meets(0, 0), -9);
        DUE.is("meets in the last corner", with(ONE, 11, 11, ONE, 10, 11).meets(0, 0), 10);
        DUE.is("meets in the first corner", with(ONE, 0, 0, ONE, 0, 1).meets(0, 0), 10);
    }

    /** "MEETS first (10 times LAID and FACE)": the least LAID one, then its least FACE. */
    private static void meetsFirst() {
        PuzzleParts x = with(DOT, 0, 0, ONE, 5, 5, ONE, 6, 5, ONE, 4, 5, ONE, 5, 4, ONE, 5, 6);
        DUE.is("meets(1, 0) of four", x.meets(1, 0), 20);
        DUE.is("meets(5, 0)", x.meets(5, 0), 10);
        PuzzleParts y = with(CORNERS, 5, 5, ONE, 6, 5, ONE, 5, 6);
        DUE.is("meets(1, 0): both FACES of one", y.meets(1, 0), 0);
        DUE.is("meets(2, 0): both FACES of one", y.meets(2, 0), 0);
        DUE.is("meets(0, 1): two LAID ones", y.meets(0, 1), 10);
        DUE.is("leak: FACES 0 and 1 of 0 MEET two", y.leak(), 0);
        PuzzleParts last = with();
        for (int i = 0; i < 9; i++) {
            last.lay(DOT, 0, 0);
        }
        last.lay(FIVE, 7, 11);
        DUE.is("meets(9, 4)", last.meets(9, 4), -9);
        PuzzleParts most = with();
        most.lay(ONE, 11, 10);
        for (int i = 0; i < 8; i++) {
            most.lay(DOT, 0, 0);
        }
        most.lay(FIVE, 7, 11);
        DUE.is("meets FACE 4 of the tenth", most.meets(0, 0), 94);
        DUE.is("meets of FACE 4 of the tenth", most.meets(9, 4), 0);
        DUE.is("meets of FACE 3 of the tenth", most.meets(9, 3), -9);
    }

    /** "FACES of two LAID ones": not those of one, but those of one PART that is LAID twice. */
    private static void meetsNoOwn() {
        PuzzleParts x = with(FIVE, 0, 0);
        for (int face = 0; face < 5; face++) {
            DUE.is("meets(0, " + face + ")", x.meets(0, face), -9);
        }
        DUE.is("leak of FACES beside each other", x.leak(), -9);
        x.lay(FIVE, 0, 1);
        for (int face = 0; face < 5; face++) {
            DUE.is("meets(0, " + face + ") of two", x.meets(0, face), 10 + face);
            DUE.is("meets(1, " + face + ") of two", x.meets(1, face), face);
        }
        DUE.is("leak of two of one PART", x.leak(), -9);
        PuzzleParts same = with(ONE, 4, 4, ONE, 4, 4);
        DUE.is("meets on the same CELL", same.meets(0, 0), -9);
    }

    /** "-9 nothing. -1 either." */
    private static void meetsRefused() {
        PuzzleParts x = with(TWO, 0, 0, DOT, 5, 5, BLOCKED, 7, 7);
        for (int none : new int[] {-1, 3, 10, LEAST, GREATEST}) {
            DUE.is("meets(" + none + ", 0)", x.meets(none, 0), -1);
            DUE.is("meets(" + none + ", -1)", x.meets(none, -1), -1);
        }
        for (int none : new int[] {-1, 2, 5, 10, LEAST, GREATEST}) {
            DUE.is("meets(0, " + none + ")", x.meets(0, none), -1);
        }
        DUE.is("meets(1, 0): no FACE", x.meets(1, 0), -1);
        DUE.is("meets(2, 0): no FACE", x.meets(2, 0), -1);
        DUE.is("meets(0, 1): the last FACE", x.meets(0, 1), -9);
        x.clear();
        DUE.is("meets(0, 0) of nothing", x.meets(0, 0), -1);
        DUE.is("count(11)", x.count(11), 10 + 6 + 3);
    }

    /** "with a FACE that MEETS more than one FACE": 0, 1, 2, 3 and 4; of one other LAID one and of several. */
    private static void leakByFaces() {
        PuzzleParts x = with(ONE, 5, 5);
        DUE.is("leak of a FACE that MEETS none", x.leak(), -9);
        x.lay(ONE, 6, 5);
        DUE.is("leak of a FACE that MEETS one", x.leak(), -9);
        x.lay(ONE, 4, 5);
        DUE.is("leak of a FACE that MEETS two", x.leak(), 0);
        x.lay(ONE, 5, 4);
        x.lay(ONE, 5, 6);
        DUE.is("leak of a FACE that MEETS four", x.leak(), 0);
        DUE.is("leak of the second", with(ONE, 6, 5, ONE, 5, 5, ONE, 5, 6).leak(), 1);
        DUE.is("leak of the third", with(ONE, 6, 5, ONE, 5, 6, ONE, 5, 5).leak(), 2);
        DUE.is("leak by two FACES of one", with(ONE, 6, 5, CORNERS, 5, 5).leak(), 0);
        DUE.is("leak by the last FACE", with(FIVE, 0, 0, ONE, 5, 0, ONE, 4, 1).leak(), 0);
        DUE.is("no leak of two FACES that MEET one each", with(FIVE, 0, 0, ONE, 5, 0, ONE, 0, 1).leak(), -9);
        DUE.is("leak by two on one CELL", with(ONE, 0, 0, ONE, 1, 0, ONE, 1, 0).leak(), 0);
    }

    /** "or an OPEN CELL of it (no FACE) beside a CELL of another one that is not BLOCKED". */
    private static void leakByOpenCells() {
        int[] kinds = {BLOCKED, DOT, ONE};
        int[][] sides = {{1, 0}, {-1, 0}, {0, 1}, {0, -1}};
        for (int[] side : sides) {
            for (int first : kinds) {
                for (int second : kinds) {
                    int want = first == BLOCKED || second == BLOCKED || first == ONE && second == ONE ? -9
                            : first == DOT ? 0 : 1;
                    DUE.is("leak of kinds " + first + " and " + second + " by " + side[0] + ", " + side[1],
                            with(first, 5, 5, second, 5 + side[0], 5 + side[1]).leak(), want);
                }
            }
        }
        int[][] corners = {{1, 1}, {-1, 1}, {1, -1}, {-1, -1}};
        for (int[] corner : corners) {
            for (int kind : kinds) {
                DUE.is("no leak by a corner, of kind " + kind,
                        with(DOT, 5, 5, kind, 5 + corner[0], 5 + corner[1]).leak(), -9);
            }
        }
        DUE.is("no leak of one's own CELLS", with(LARGE, 3, 3).leak(), -9);
        DUE.is("no leak on the same CELL", with(DOT, 3, 3, DOT, 3, 3).leak(), -9);
        DUE.is("leak beside one that lies over it", with(STEM, 3, 3, ONE, 3, 3).leak(), 0);
        DUE.is("no leak of a BLOCKED CELL beside another's", with(FAR, 0, 0, DOT, 5, 3).leak(), -9);
    }

    /** "LEAK: the first LAID one": by its number, whatever way it leaks. */
    private static void leakOfFirst() {
        for (int first = 0; first < 9; first++) {
            PuzzleParts x = with();
            for (int i = 0; i < 10; i++) {
                x.lay(i == first ? STEM : ONE, i == first ? 9 : i % 5 * 2, i == first ? 5 : i / 5 * 2);
            }
            DUE.is("leak of none, " + first, x.leak(), -9);
            PuzzleParts y = with();
            for (int i = 0; i < 9; i++) {
                y.lay(i == first ? STEM : ONE, i == first ? 9 : i % 5 * 2, i == first ? 5 : i / 5 * 2);
            }
            y.lay(ONE, 11, 5);
            DUE.is("leak of " + first, y.leak(), first);
        }
        DUE.is("leak by FACES ahead of OPEN CELLS", with(ONE, 5, 5, ONE, 6, 5, ONE, 4, 5, DOT, 0, 0, DOT, 0, 1).leak(), 0);
        DUE.is("leak by OPEN CELLS ahead of FACES", with(DOT, 0, 0, DOT, 0, 1, ONE, 5, 5, ONE, 6, 5, ONE, 4, 5).leak(), 0);
        DUE.is("leak of the one with the OPEN CELL", with(ONE, 1, 0, DOT, 0, 0).leak(), 1);
    }

    /** "beside": the last CELL of a line is not beside the first of the next one. */
    private static void leakBeyondEdges() {
        DUE.is("no leak across the right edge", with(DOT, 11, 3, DOT, 0, 4).leak(), -9);
        DUE.is("no leak across the left edge", with(DOT, 0, 4, DOT, 11, 3, DOT, 11, 5).leak(), -9);
        DUE.is("no leak across the top", with(DOT, 4, 0, DOT, 4, 11).leak(), -9);
        DUE.is("no leak across corners", with(DOT, 0, 0, DOT, 11, 11, DOT, 0, 11, DOT, 11, 0).leak(), -9);
        DUE.is("leak in the last corner", with(DOT, 11, 11, DOT, 11, 10).leak(), 0);
        DUE.is("leak in the first corner", with(DOT, 0, 0, DOT, 1, 0).leak(), 0);
        DUE.is("leak in the upper right corner", with(DOT, 11, 0, ONE, 11, 1).leak(), 0);
        DUE.is("leak in the lower left corner", with(ONE, 1, 11, DOT, 0, 11).leak(), 1);
    }

    /** "-3 nothing is LAID, OVERLAP, LEAK". */
    private static void netOfNothing() {
        PuzzleParts x = with();
        DUE.is("floorNet of nothing", x.floorNet(), -3);
        x.lay(BLOCKED, 0, 0);
        DUE.is("floorNet of one", x.floorNet(), 0);
        DUE.is("howMany(0, 0)", x.howMany(0, 0), 1);
        x.clear();
        DUE.is("floorNet of nothing again", x.floorNet(), -3);
        DUE.is("floorNet with OVERLAP", with(ONE, 0, 0, ONE, 0, 0).floorNet(), -3);
        DUE.is("floorNet with LEAK by an OPEN CELL", with(ONE, 0, 0, DOT, 0, 1).floorNet(), -3);
        DUE.is("floorNet with LEAK by FACES", with(ONE, 0, 0, ONE, 0, 1, ONE, 1, 0).floorNet(), -3);
        DUE.is("floorNet with OVERLAP and LEAK", with(DOT, 0, 0, DOT, 0, 0, DOT, 0, 1).floorNet(), -3);
        DUE.is("floorNet by a corner", with(DOT, 0, 0, DOT, 1, 1).floorNet(), 0);
        DUE.is("count(13)", x.count(13), 2);
        DUE.is("count(2)", x.count(2), 1);
    }

    /** "-3 ..; -6 (6; 8 PIECES; 12 LINKS)": what is not as it must be comes first. */
    private static void netRefusedInOrder() {
        PuzzleParts x = with();
        Edge.fillNets(x, 6);
        DUE.is("floorNet of 6 NETS and nothing", x.floorNet(), -3);
        x.lay(ONE, 0, 0);
        DUE.is("floorNet of 6 NETS", x.floorNet(), -6);
        x.lay(ONE, 0, 0);
        DUE.is("floorNet of 6 NETS and OVERLAP", x.floorNet(), -3);
        x.clear();
        x.lay(DOT, 0, 0);
        x.lay(DOT, 0, 1);
        DUE.is("floorNet of 6 NETS and LEAK", x.floorNet(), -3);
        PuzzleParts nine = with();
        for (int i = 0; i < 9; i++) {
            nine.lay(DOT, i, i);
        }
        DUE.is("floorNet of 9 PIECES", nine.floorNet(), -6);
        nine.lay(DOT, 8, 8);
        DUE.is("floorNet of 10 PIECES and OVERLAP", nine.floorNet(), -3);
        PuzzleParts leaks = with();
        for (int i = 0; i < 9; i++) {
            leaks.lay(DOT, i, i);
        }
        leaks.lay(DOT, 8, 7);
        DUE.is("floorNet of 10 PIECES and LEAK", leaks.floorNet(), -3);
        DUE.is("count(13) of it", leaks.count(13), 1);
        DUE.is("count(16) of it", leaks.count(16), 0);
    }

    /** "8 PIECES": 7, 8, 9 and 10. */
    private static void eightPieces() {
        PuzzleParts x = with();
        for (int many = 1; many <= 10; many++) {
            x.lay(ONE, many, 11 - many);
            if (many == 7 || many == 8) {
                DUE.is("floorNet of " + many, x.floorNet(), many - 7);
                DUE.is("free of " + many, x.free(many - 7, -1), many);
                DUE.is("netLets of " + many, x.netLets(many - 7, (1 << many) - 1), 1);
            } else if (many > 8) {
                DUE.is("floorNet of " + many, x.floorNet(), -6);
            }
        }
        DUE.is("an eighth PIECE", x.piece(0, ONE), 7);
        DUE.is("a ninth PIECE", x.piece(1, ONE), -6);
        DUE.is("count(2)", x.count(2), 2);
        DUE.is("count(16)", x.count(16), 3);
    }

    /** "12 LINKS": 10, 11, 12 and 13. */
    private static void twelveLinks() {
        PuzzleParts x = with(FIVE, 0, 0, FIVE, 0, 1, FIVE, 6, 0, FIVE, 6, 1);
        DUE.is("floorNet of 10 LINKS", x.floorNet(), 0);
        DUE.is("free of 10 LINKS", x.free(0, -1), 0);
        x.lay(ONE, 0, 5);
        x.lay(ONE, 1, 5);
        DUE.is("floorNet of 11 LINKS", x.floorNet(), 1);
        DUE.is("free of 11 LINKS", x.free(1, -1), 0);
        x.clear();
        for (int i = 0; i < 4; i++) {
            x.lay(FIVE, i / 2 * 6, i % 2);
        }
        x.lay(TWO, 0, 5);
        x.lay(TWO, 0, 6);
        DUE.is("floorNet of 12 LINKS", x.floorNet(), 2);
        DUE.is("free of 12 LINKS", x.free(2, -1), 0);
        DUE.is("netLets of 12 LINKS", x.netLets(2, 0), 1);
        x.lay(ONE, 8, 8);
        DUE.is("floorNet of 12 LINKS and a FREE one", x.floorNet(), 3);
        DUE.is("free of 12 LINKS and a FREE one", x.free(3, 0), 60);
        x.lay(ONE, 8, 9);
        DUE.is("floorNet of 13 LINKS", x.floorNet(), -6);
        DUE.is("overlap of 13 LINKS", x.overlap(), -9);
        DUE.is("leak of 13 LINKS", x.leak(), -9);
        DUE.is("count(2)", x.count(2), 4);
        x.lay(DOT, 8, 10);
        DUE.is("floorNet of 13 LINKS and LEAK", x.floorNet(), -3);
    }

    /** The same where FACE 4 of the seventh MEETS FACE 0 of the eighth: each two that MEET make one LINK. */
    private static void lastLinks() {
        for (int part : new int[] {ONE, TWO}) {
            PuzzleParts x = with(FIVE, 0, 0, FIVE, 0, 1, FIVE, 6, 0, FIVE, 6, 1, part, 0, 5, part, 0, 6, FIVE, 0, 10,
                    FIVE, 5, 10);
            DUE.is("leak", x.leak(), -9);
            DUE.is("meets(7, 0)", x.meets(7, 0), 64);
            DUE.is("floorNet of " + (part == ONE ? 12 : 13) + " LINKS", x.floorNet(), part == ONE ? 0 : -6);
            DUE.is("free(0, -1)", x.free(0, -1), part == ONE ? 8 : -1);
            DUE.is("a 13th LINK", x.link(0, 60, 61), part == ONE ? -6 : -1);
        }
    }

    /** "-6 (6": six NETS of one FLOOR, and what is LAID stays. */
    private static void sixNets() {
        PuzzleParts x = with(TWO, 0, 0);
        for (int net = 0; net < 6; net++) {
            DUE.is("floorNet() of " + net, x.floorNet(), net);
        }
        DUE.is("floorNet() of 6", x.floorNet(), -6);
        DUE.is("net() of 6", x.net(), -6);
        DUE.is("count(2)", x.count(2), 6);
        DUE.is("count(3): what is LAID stays", x.count(3), 1);
    }

    /** A NET of THE FLOOR is one of its own: what is LAID or cleared later does not change it, nor it THE FLOOR. */
    private static void netOfFloorStays() {
        PuzzleParts x = with(TWO, 0, 0, TWO, 2, 0);
        DUE.is("floorNet()", x.floorNet(), 0);
        DUE.is("count(3)", x.count(3), 2);
        x.clear();
        DUE.is("free(0, -1) after clear()", x.free(0, -1), 2);
        DUE.is("netLets(0, 3) after clear()", x.netLets(0, 3), 1);
        DUE.is("netLets(0, 1) after clear()", x.netLets(0, 1), 0);
        x.lay(DOT, 0, 0);
        DUE.is("piece(0, 1)", x.piece(0, ONE), 2);
        DUE.is("link(0, 11, 20)", x.link(0, 11, 20), 2);
        DUE.is("count(3)", x.count(3), 1);
        DUE.is("meets(0, 0)", x.meets(0, 0), -1);
    }

    /** "PIECES as LAID, LINKS where FACES MEET": those that MEET none are FREE. */
    private static void linksOfFloor() {
        PuzzleParts x = with(CROSS, 4, 4, ONE, 5, 3, BLOCKED, 0, 0, TWO, 2, 5, ONE, 5, 7);
        DUE.is("floorNet()", x.floorNet(), 0);
        int[] free = {2, 30};
        DUE.is("free(0, -1)", x.free(0, -1), free.length);
        for (int i = 0; i < free.length; i++) {
            DUE.is("free(0, " + i + ")", x.free(0, i), free[i]);
        }
        for (int told : new int[] {0, 1, 3, 10, 31, 40}) {
            DUE.is("link(0, " + told + ", 2): it is in a LINK", x.link(0, told, 2), -3);
        }
        PuzzleParts last = with(BLOCKED, 0, 11, BLOCKED, 1, 11, BLOCKED, 2, 11, BLOCKED, 3, 11, BLOCKED, 4, 11, BLOCKED,
                5, 11, FIVE, 0, 0, FIVE, 5, 0);
        DUE.is("meets(6, 4)", last.meets(6, 4), 70);
        DUE.is("floorNet() of FACE 4 of the seventh", last.floorNet(), 0);
        DUE.is("free(0, -1) of it", last.free(0, -1), 8);
        DUE.is("link of FACE 4 of the seventh", last.link(0, 64, 60), -3);
        DUE.is("link of FACE 0 of the eighth", last.link(0, 74, 70), -3);
        DUE.is("the second LINK of it", last.link(0, 60, 74), 2);
        DUE.is("a fourth LINK", x.link(0, 2, 30), 4);
        DUE.is("free(0, -1)", x.free(0, -1), 0);
        DUE.is("meets of all", x.meets(0, 0) + x.meets(0, 1) + x.meets(0, 3), 10 + 31 + 40);
    }

    /** "Nothing is LAID any more: how many were." */
    private static void clears() {
        PuzzleParts x = with();
        DUE.is("clear() of nothing", x.clear(), 0);
        for (int many = 1; many <= 10; many++) {
            for (int i = 0; i < many; i++) {
                DUE.is("lay", x.lay(TWO, 0, 0), i);
            }
            DUE.is("clear() of " + many, x.clear(), many);
            DUE.is("count(3)", x.count(3), 0);
            DUE.is("overlap()", x.overlap(), -9);
            DUE.is("leak()", x.leak(), -9);
            DUE.is("meets(0, 0)", x.meets(0, 0), -1);
            DUE.is("floorNet()", x.floorNet(), -3);
        }
        DUE.is("clear() again", x.clear(), 0);
        DUE.is("count(0)", x.count(0), TEXTS.length);
    }
}
