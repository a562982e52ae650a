/**
 * One puzzle inside another: formulas turned into floors of dominoes by small parts.
 * The words in capitals are those of the document; README.md tells them in short.
 */
public final class PuzzleParts {
    private static final int NOBODY = -1;
    private static final int OTHER = -2;
    private static final int STATE = -3;
    private static final int BELOW = -4;
    private static final int ROOM = -6;
    private static final int NONE = -9;
    private static final int FAULTY = -20;
    private static final long LONG_REFUSAL = 4000000000000000000L;

    private static final int MOST_FED = 8;
    private static final int MOST_BYTES = 40;
    private static final int MOST_PARTS = 24;
    private static final int MOST_FORMULAS = 20;
    private static final int MOST_NETS = 6;
    private static final int MOST_IN_ROW = 3;
    private static final int MOST_TOLD_CELL = 99;
    private static final int MOST_CELLS_TRIED = 9;
    private static final int MOST_FREE = 10;

    private final int[] tape = new int[MOST_BYTES];
    private int tapeLength;
    private final Board[] parts = new Board[MOST_PARTS];
    private int partCount;
    private final long[] formulas = new long[MOST_FORMULAS];
    private int formulaCount;
    private final Net[] nets = new Net[MOST_NETS];
    private int netCount;
    private final int[] row = new int[MOST_IN_ROW];
    private int rowLength;
    private final Floor floor = new Floor();
    private final int[] refusals = new int[7];

    public PuzzleParts() {
    }

    // ---- THE TAPE, PARTS and what they let ----

    public int feed(int n, long bytes) {
        if (n < 1) {
            return refuse(BELOW);
        }
        if (n > MOST_FED || n > MOST_BYTES - tapeLength) {
            return refuse(ROOM);
        }
        for (int i = 0; i < n; i++) {
            tape[tapeLength] = (int) (bytes >>> (8 * i)) & 255;
            tapeLength++;
        }
        return tapeLength;
    }

    public int part() {
        if (partCount >= MOST_PARTS) {
            return refuse(ROOM);
        }
        int length = tapeLength;
        tapeLength = 0;
        int fault = BoardText.faultOf(tape, length);
        return fault == BoardText.NO_FAULT ? keep(BoardText.boardOf(tape, length)) : FAULTY - fault;
    }

    public int partOf(int part, int what) {
        Board board = partAt(part);
        if (board == null) {
            return refuse(NOBODY);
        }
        switch (what) {
            case 0:
                return board.wide;
            case 1:
                return board.high;
            case 2:
                return board.faces;
            case 3:
                return Integer.bitCount(board.open) + board.faces;
            default:
                return refuse(OTHER);
        }
    }

    public int cell(int part, int xy) {
        Board board = partAt(part);
        if (board == null || !board.hasCell(xy)) {
            return refuse(NOBODY);
        }
        return board.codeAt(xy / 10, xy % 10);
    }

    public long lets(int part) {
        Board board = partAt(part);
        return board == null ? refuseLong(NOBODY) : board.letStates;
    }

    public int ways(int part, int state) {
        Board board = partAt(part);
        if (board == null || !board.hasState(state)) {
            return refuse(NOBODY);
        }
        return board.tilings[state];
    }

    public int covered(int part, int state, int xy) {
        Board board = partAt(part);
        if (board == null || !board.hasState(state) || !board.hasCell(xy)) {
            return refuse(NOBODY);
        }
        if (board.tilings[state] == 0) {
            return NONE;
        }
        return board.coverAt(state, xy / 10, xy % 10);
    }

    public long barred(int part) {
        Board board = partAt(part);
        return board == null ? refuseLong(NOBODY) : board.barredStates;
    }

    // ---- FORMULAS ----

    public int formula() {
        if (formulaCount >= MOST_FORMULAS) {
            return refuse(ROOM);
        }
        FormulaText text = new FormulaText(tape, tapeLength);
        tapeLength = 0;
        long truth = text.truthOfAll();
        if (text.fault != FormulaText.NO_FAULT) {
            return FAULTY - text.fault;
        }
        formulas[formulaCount] = truth;
        formulaCount++;
        return formulaCount - 1;
    }

    public long means(int formula, int faces) {
        if (!isFormula(formula)) {
            return refuseLong(NOBODY);
        }
        if (faces < 0) {
            return refuseLong(BELOW);
        }
        if (faces > Board.MOST_FACES) {
            return refuseLong(ROOM);
        }
        return meaning(formula, faces);
    }

    public int does(int part, int formula) {
        Board board = partAt(part);
        if (board == null || !isFormula(formula)) {
            return refuse(NOBODY);
        }
        return board.letStates == meaning(formula, board.faces) ? 1 : 0;
    }

    public int misses(int part, int formula) {
        Board board = partAt(part);
        if (board == null || !isFormula(formula)) {
            return refuse(NOBODY);
        }
        long unlike = board.letStates ^ meaning(formula, board.faces);
        for (int state = 0; state < board.states(); state++) {
            if ((unlike >> state & 1L) != 0) {
                return state;
            }
        }
        return NONE;
    }

    // ---- PARTS that come of others ----

    public int turn(int part) {
        Board board = partAt(part);
        if (board == null) {
            return refuse(NOBODY);
        }
        if (partCount >= MOST_PARTS) {
            return refuse(ROOM);
        }
        if (board.wide > Board.MOST_HIGH) {
            return refuse(STATE);
        }
        return keep(board.turned());
    }

    public int mirror(int part) {
        Board board = partAt(part);
        return board == null ? refuse(NOBODY) : keep(board.mirrored());
    }

    public int less(int part, int xy) {
        Board board = partAt(part);
        if (board == null || !board.hasCell(xy)) {
            return refuse(NOBODY);
        }
        if (board.codeAt(xy / 10, xy % 10) != Board.OPEN) {
            return refuse(STATE);
        }
        return keep(board.without(Board.bitOf(xy / 10, xy % 10)));
    }

    public int rename(int part, int digits) {
        Board board = partAt(part);
        if (board == null) {
            return refuse(NOBODY);
        }
        if (!isPermutation(digits, board.faces)) {
            return refuse(STATE);
        }
        return keep(board.renamed(digits));
    }

    public int alike(int a, int b) {
        Board first = partAt(a);
        Board second = partAt(b);
        if (first == null || second == null) {
            return refuse(NOBODY);
        }
        for (int turns = 0; turns < 4; turns++) {
            if (Board.same(first, second, false, turns) || Board.same(first, second, true, turns)) {
                return 1;
            }
        }
        return 0;
    }

    public int needless(int part) {
        Board board = partAt(part);
        return board == null ? refuse(NOBODY) : board.needlessCells();
    }

    public int put(int xy) {
        if (xy < 0) {
            return refuse(BELOW);
        }
        if (xy > MOST_TOLD_CELL || rowLength >= MOST_IN_ROW) {
            return refuse(ROOM);
        }
        row[rowLength] = xy;
        rowLength++;
        return rowLength;
    }

    public int find(int wide, int high, int formula) {
        if (!isFormula(formula)) {
            return refuse(NOBODY);
        }
        if (wide < 1 || high < 1) {
            return refuse(BELOW);
        }
        if (wide > Board.MOST_WIDE || high > Board.MOST_HIGH || wide * high > MOST_CELLS_TRIED
                || partCount >= MOST_PARTS) {
            return refuse(ROOM);
        }
        if (!rowStandsOn(wide, high)) {
            return refuse(STATE);
        }
        Board found = firstThatLets(boardOfRow(wide, high), meaning(formula, rowLength));
        rowLength = 0;
        return found == null ? NONE : keep(found);
    }

    // ---- NETS ----

    public int net() {
        return keepNet(new Net());
    }

    public int piece(int net, int part) {
        Net into = netAt(net);
        Board board = partAt(part);
        if (into == null || board == null) {
            return refuse(NOBODY);
        }
        if (into.pieceCount >= Net.MOST_PIECES) {
            return refuse(ROOM);
        }
        return into.addPiece(board);
    }

    public int link(int net, int a, int b) {
        Net into = netAt(net);
        if (into == null || !into.hasFace(a) || !into.hasFace(b)) {
            return refuse(NOBODY);
        }
        if (a == b || into.isLinked(a) || into.isLinked(b)) {
            return refuse(STATE);
        }
        if (into.linkCount >= Net.MOST_LINKS) {
            return refuse(ROOM);
        }
        return into.addLink(a, b);
    }

    public int free(int net, int i) {
        Net of = netAt(net);
        if (of == null || i < -1) {
            return refuse(NOBODY);
        }
        return i == -1 ? of.freeCount() : of.freeFace(i);
    }

    public int netLets(int net, int state) {
        int refusal = refusalOfNetState(net, state);
        Net of = netAt(net);
        if (refusal != 0 || of == null) {
            return refuse(refusal);
        }
        return of.letsState(state) ? 1 : 0;
    }

    public int howMany(int net, int state) {
        int refusal = refusalOfNetState(net, state);
        Net of = netAt(net);
        if (refusal != 0 || of == null) {
            return refuse(refusal);
        }
        return of.waysInState(state);
    }

    public int netDoes(int net, int formula) {
        Net of = netAt(net);
        if (of == null || !isFormula(formula)) {
            return refuse(NOBODY);
        }
        int freeFaces = of.freeCount();
        if (freeFaces > Board.MOST_FACES) {
            return 0;
        }
        long wanted = meaning(formula, freeFaces);
        for (int state = 0; state < 1 << freeFaces; state++) {
            if (of.letsState(state) != ((wanted >> state & 1L) != 0)) {
                return 0;
            }
        }
        return 1;
    }

    // ---- THE FLOOR ----

    public int lay(int part, int x, int y) {
        Board board = partAt(part);
        if (board == null) {
            return refuse(NOBODY);
        }
        if (x < 0 || y < 0) {
            return refuse(BELOW);
        }
        if (x > Floor.SIDE - board.wide || y > Floor.SIDE - board.high || floor.laidCount >= Floor.MOST_LAID) {
            return refuse(ROOM);
        }
        return floor.add(board, x, y);
    }

    public int overlap() {
        return floor.firstOverlap();
    }

    public int meets(int laid, int face) {
        if (!floor.hasFace(laid, face)) {
            return refuse(NOBODY);
        }
        return floor.metBy(laid, face, 0);
    }

    public int leak() {
        return floor.firstLeak();
    }

    public int floorNet() {
        if (floor.laidCount == 0 || floor.firstOverlap() != NONE || floor.firstLeak() != NONE) {
            return refuse(STATE);
        }
        if (floor.laidCount > Net.MOST_PIECES || floor.meetings() > Net.MOST_LINKS) {
            return refuse(ROOM);
        }
        return keepNet(floor.asNet());
    }

    public int clear() {
        int were = floor.laidCount;
        floor.laidCount = 0;
        return were;
    }

    public int count(int what) {
        switch (what) {
            case 0:
                return partCount;
            case 1:
                return formulaCount;
            case 2:
                return netCount;
            case 3:
                return floor.laidCount;
            case 4:
                return tapeLength;
            case 5:
                return rowLength;
            default:
                return what >= 11 && what <= 16 ? refusals[what - 10] : NONE;
        }
    }

    // ---- what the calls share ----

    private int refuse(int number) {
        int at = -number;
        if (at > 0 && at < refusals.length) {
            refusals[at]++;
        }
        return number;
    }

    private long refuseLong(int number) {
        return LONG_REFUSAL - refuse(number);
    }

    private Board partAt(int number) {
        return number >= 0 && number < partCount ? parts[number] : null;
    }

    private Net netAt(int number) {
        return number >= 0 && number < netCount ? nets[number] : null;
    }

    private boolean isFormula(int number) {
        return number >= 0 && number < formulaCount;
    }

    /** Its number, or the REFUSAL, if there is no room. */
    private int keep(Board board) {
        if (partCount >= MOST_PARTS) {
            return refuse(ROOM);
        }
        board.countTilings();
        parts[partCount] = board;
        partCount++;
        return partCount - 1;
    }

    private int keepNet(Net made) {
        if (netCount >= MOST_NETS) {
            return refuse(ROOM);
        }
        nets[netCount] = made;
        netCount++;
        return netCount - 1;
    }

    /**
     * MEANS of a FORMULA that is there. Letters of no FACE are false in all STATES below 2 to the power of FACES,
     * so that the low bits tell it.
     */
    private long meaning(int formula, int faces) {
        return formulas[formula] & ((1L << (1 << faces)) - 1L);
    }

    private int refusalOfNetState(int net, int state) {
        Net of = netAt(net);
        if (of == null) {
            return NOBODY;
        }
        int freeFaces = of.freeCount();
        if (freeFaces > MOST_FREE) {
            return STATE;
        }
        return state < 0 || state >= 1 << freeFaces ? NOBODY : 0;
    }

    private static boolean isPermutation(int digits, int faces) {
        if (digits < 0) {
            return false;
        }
        int rest = digits;
        int seen = 0;
        for (int i = 0; i < faces; i++) {
            seen |= 1 << rest % 10;
            rest /= 10;
        }
        return rest == 0 && seen == (1 << faces) - 1;
    }

    private boolean rowStandsOn(int wide, int high) {
        int seen = 0;
        for (int i = 0; i < rowLength; i++) {
            int x = row[i] / 10;
            int y = row[i] % 10;
            if (x >= wide || y >= high || (seen & Board.bitOf(x, y)) != 0) {
                return false;
            }
            seen |= Board.bitOf(x, y);
        }
        return rowLength > 0;
    }

    private Board boardOfRow(int wide, int high) {
        Board board = new Board(wide, high);
        int taken = 0;
        for (int i = 0; i < rowLength; i++) {
            board.set(row[i] / 10, row[i] % 10, Board.FACE + i);
            taken |= Board.bitOf(row[i] / 10, row[i] % 10);
        }
        for (int y = 0; y < high; y++) {
            for (int x = 0; x < wide; x++) {
                if ((taken & Board.bitOf(x, y)) == 0) {
                    board.set(x, y, Board.OPEN);
                }
            }
        }
        return board;
    }

    /** Null, if none does. Subtracting the whole from a subset of its bits leads to the next larger subset. */
    private static Board firstThatLets(Board whole, long wanted) {
        int all = whole.open;
        int blocked = 0;
        int subsets = 1 << Integer.bitCount(all);
        for (int i = 0; i < subsets; i++) {
            if (whole.letWith(all & ~blocked) == wanted) {
                return whole.without(blocked);
            }
            blocked = (blocked - all) & all;
        }
        return null;
    }

    /** A BOARD; sets of its CELLS are bits, 5 y and x, however WIDE it is. */
    private static final class Board {
        static final int MOST_WIDE = 5;
        static final int MOST_HIGH = 4;
        static final int STRIDE = MOST_WIDE;
        static final int MOST_FACES = 5;
        static final int BLOCKED = 0;
        static final int OPEN = 1;
        static final int FACE = 10;

        final int wide;
        final int high;
        final int[] cells = new int[MOST_WIDE * MOST_HIGH];
        int open;
        int faces;
        final int[] facePlaces = new int[MOST_FACES];
        final int[] tilings = new int[1 << MOST_FACES];
        long letStates;
        long barredStates;

        Board(int wide, int high) {
            this.wide = wide;
            this.high = high;
        }

        static int bitOf(int x, int y) {
            return 1 << (STRIDE * y + x);
        }

        /** Each CELL is set once at most, else FACES would be counted twice. */
        void set(int x, int y, int code) {
            if (!isWithin(x, y)) {
                return;
            }
            int place = STRIDE * y + x;
            cells[place] = code;
            if (code == OPEN) {
                open |= 1 << place;
            }
            int face = code - FACE;
            if (face >= 0 && face < MOST_FACES) {
                facePlaces[face] = place;
                faces++;
            }
        }

        boolean isWithin(int x, int y) {
            return x >= 0 && x < wide && y >= 0 && y < high;
        }

        boolean hasCell(int xy) {
            return xy >= 0 && isWithin(xy / 10, xy % 10);
        }

        int codeAt(int x, int y) {
            return isWithin(x, y) ? cells[STRIDE * y + x] : BLOCKED;
        }

        int states() {
            return 1 << faces;
        }

        boolean hasState(int state) {
            return state >= 0 && state < states();
        }

        void countTilings() {
            for (int state = 0; state < states(); state++) {
                int toCover = toCover(open, state);
                tilings[state] = Tilings.number(toCover);
                if (tilings[state] > 0) {
                    letStates |= 1L << state;
                }
                if (!Tilings.isBalanced(toCover)) {
                    barredStates |= 1L << state;
                }
            }
        }

        int toCover(int openCells, int state) {
            int all = openCells;
            for (int face = 0; face < faces; face++) {
                if ((state >> face & 1) == 0) {
                    all |= 1 << facePlaces[face];
                }
            }
            return all;
        }

        /** LETS, if just these CELLS were OPEN. */
        long letWith(int openCells) {
            long let = 0;
            for (int state = 0; state < states(); state++) {
                if (Tilings.number(toCover(openCells, state)) > 0) {
                    let |= 1L << state;
                }
            }
            return let;
        }

        int needlessCells() {
            int needless = 0;
            for (int place = 0; place < cells.length; place++) {
                if (cells[place] == OPEN && letWith(open & ~(1 << place)) == letStates) {
                    needless |= 1 << place;
                }
            }
            return needless;
        }

        int coverAt(int state, int x, int y) {
            int code = codeAt(x, y);
            if (code >= FACE && (state >> (code - FACE) & 1) != 0) {
                return Tilings.JUTS_OUT;
            }
            return code == BLOCKED ? Tilings.NOTHING : Tilings.firstCoverOf(toCover(open, state), bitOf(x, y));
        }

        Board turned() {
            Board made = new Board(high, wide);
            for (int y = 0; y < high; y++) {
                for (int x = 0; x < wide; x++) {
                    made.set(high - 1 - y, x, codeAt(x, y));
                }
            }
            return made;
        }

        Board mirrored() {
            Board made = new Board(wide, high);
            for (int y = 0; y < high; y++) {
                for (int x = 0; x < wide; x++) {
                    made.set(wide - 1 - x, y, codeAt(x, y));
                }
            }
            return made;
        }

        Board without(int blocked) {
            Board made = new Board(wide, high);
            for (int y = 0; y < high; y++) {
                for (int x = 0; x < wide; x++) {
                    made.set(x, y, (blocked & bitOf(x, y)) == 0 ? codeAt(x, y) : BLOCKED);
                }
            }
            return made;
        }

        /** The last digit is the new number of the last FACE. */
        Board renamed(int digits) {
            Board made = new Board(wide, high);
            int[] names = new int[MOST_FACES];
            int rest = digits;
            for (int face = faces - 1; face >= 0; face--) {
                names[face] = rest % 10;
                rest /= 10;
            }
            for (int y = 0; y < high; y++) {
                for (int x = 0; x < wide; x++) {
                    int code = codeAt(x, y);
                    made.set(x, y, code < FACE ? code : FACE + names[code - FACE]);
                }
            }
            return made;
        }

        /** Whether the second is the first one mirrored (or not) and then turned so often. */
        static boolean same(Board first, Board second, boolean mirror, int turns) {
            boolean upright = turns % 2 == 0;
            if (second.wide != (upright ? first.wide : first.high)
                    || second.high != (upright ? first.high : first.wide)) {
                return false;
            }
            for (int y = 0; y < first.high; y++) {
                for (int x = 0; x < first.wide; x++) {
                    if (second.codeAfter(first, mirror ? first.wide - 1 - x : x, y, turns) != first.codeAt(x, y)) {
                        return false;
                    }
                }
            }
            return true;
        }

        /** The code at the CELL to which turning the other one brings its CELL x, y. */
        int codeAfter(Board other, int x, int y, int turns) {
            int toX = x;
            int toY = y;
            for (int i = 0; i < turns; i++) {
                int highNow = i % 2 == 0 ? other.high : other.wide;
                int wasX = toX;
                toX = highNow - 1 - toY;
                toY = wasX;
            }
            return codeAt(toX, toY);
        }
    }

    /** TILINGS of sets of CELLS (bits as in Board: to the right is 1 higher, down 5 higher). */
    private static final class Tilings {
        static final int NOTHING = 0;
        static final int TO_THE_RIGHT = 1;
        static final int DOWN = 2;
        static final int TO_THE_LEFT = 3;
        static final int UP = 4;
        static final int JUTS_OUT = 5;
        private static final int MOST_DOMINOES = 10;
        /** CELLS with an even place: 5 y and x is even just where x and y together are. */
        private static final int LIGHT = 0x55555;
        /** CELLS with x 4, whose next higher bit is no neighbour. */
        private static final int LAST_COLUMN = 0x84210;
        private static final int STEP_DOWN = Board.STRIDE;

        static boolean isBalanced(int toCover) {
            return 2 * Integer.bitCount(toCover & LIGHT) == Integer.bitCount(toCover);
        }

        static int number(int toCover) {
            return isBalanced(toCover) ? numberFrom(toCover, 0) : 0;
        }

        private static int numberFrom(int rest, int dominoes) {
            if (rest == 0) {
                return 1;
            }
            if (dominoes >= MOST_DOMINOES) {
                return 0;
            }
            int lowest = rest & -rest;
            int found = 0;
            if (goesRight(rest, lowest)) {
                found += numberFrom(rest & ~(lowest | lowest << 1), dominoes + 1);
            }
            if ((rest & lowest << STEP_DOWN) != 0) {
                found += numberFrom(rest & ~(lowest | lowest << STEP_DOWN), dominoes + 1);
            }
            return found;
        }

        private static boolean goesRight(int rest, int cell) {
            return (cell & LAST_COLUMN) == 0 && (rest & cell << 1) != 0;
        }

        /** What covers a CELL in the first TILING of a set that has one. */
        static int firstCoverOf(int toCover, int cell) {
            int rest = toCover;
            for (int i = 0; i < MOST_DOMINOES && rest != 0; i++) {
                int lowest = rest & -rest;
                boolean right = goesRight(rest, lowest) && number(rest & ~(lowest | lowest << 1)) > 0;
                int beside = right ? lowest << 1 : lowest << STEP_DOWN;
                if (cell == lowest) {
                    return right ? TO_THE_RIGHT : DOWN;
                }
                if (cell == beside) {
                    return right ? TO_THE_LEFT : UP;
                }
                rest &= ~(lowest | beside);
            }
            return NOTHING;
        }
    }

    /** How THE TAPE is read as a BOARD. */
    private static final class BoardText {
        static final int NO_FAULT = -1;

        static int faultOf(int[] text, int length) {
            int wide = Board.MOST_WIDE;
            int x = 0;
            int y = 0;
            int seen = 0;
            for (int place = 0; place < length && place < text.length; place++) {
                int sign = text[place];
                if (sign == '/') {
                    if (x == 0 || y > 0 && x < wide || y + 1 >= Board.MOST_HIGH) {
                        return place;
                    }
                    wide = x;
                    x = 0;
                    y++;
                } else {
                    int face = faceOf(sign);
                    if (x >= wide || codeOf(sign) < 0 || face >= 0 && (seen >> face & 1) != 0) {
                        return place;
                    }
                    seen |= face >= 0 ? 1 << face : 0;
                    x++;
                }
            }
            boolean lacks = x == 0 || y > 0 && x < wide;
            boolean gap = (seen & (seen + 1)) != 0;
            return lacks || gap ? length : NO_FAULT;
        }

        /** Of a text without a FAULT: each LINE takes one byte more than the BOARD is WIDE. */
        static Board boardOf(int[] text, int length) {
            int wide = wideOf(text, length);
            Board board = new Board(wide, (length + 1) / (wide + 1));
            int x = 0;
            int y = 0;
            for (int place = 0; place < length && place < text.length; place++) {
                if (text[place] == '/') {
                    x = 0;
                    y++;
                } else {
                    board.set(x, y, codeOf(text[place]));
                    x++;
                }
            }
            return board;
        }

        private static int wideOf(int[] text, int length) {
            for (int place = 0; place < length && place < text.length; place++) {
                if (text[place] == '/') {
                    return place;
                }
            }
            return length;
        }

        private static int faceOf(int sign) {
            return sign >= '0' && sign < '0' + Board.MOST_FACES ? sign - '0' : -1;
        }

        private static int codeOf(int sign) {
            if (sign == '#') {
                return Board.BLOCKED;
            }
            if (sign == '.') {
                return Board.OPEN;
            }
            return faceOf(sign) < 0 ? -1 : Board.FACE + faceOf(sign);
        }
    }

    /** How THE TAPE is read as a FORMULA, whose truth is kept as bits, one for each STATE of five FACES. */
    private static final class FormulaText {
        static final int NO_FAULT = -1;
        private static final int MOST_DEEP = 5;
        private static final int END = -1;
        private static final long ALL = 0xFFFFFFFFL;
        private static final long[] LETTERS = {0xAAAAAAAAL, 0xCCCCCCCCL, 0xF0F0F0F0L, 0xFF00FF00L, 0xFFFF0000L};

        private final int[] text;
        private final int length;
        private int place;
        int fault = NO_FAULT;

        FormulaText(int[] text, int length) {
            this.text = text;
            this.length = length;
        }

        long truthOfAll() {
            long truth = readOr(0);
            if (fault == NO_FAULT && place < length) {
                fault = place;
            }
            return truth;
        }

        private int next() {
            return place < length && place < text.length ? text[place] : END;
        }

        private long fail() {
            if (fault == NO_FAULT) {
                fault = place;
            }
            return 0;
        }

        private long readOr(int depth) {
            long truth = readAnd(depth);
            for (int i = 0; i < length && fault == NO_FAULT && next() == '|'; i++) {
                place++;
                truth |= readAnd(depth);
            }
            return truth;
        }

        private long readAnd(int depth) {
            long truth = readUnit(depth);
            for (int i = 0; i < length && fault == NO_FAULT && next() == '&'; i++) {
                place++;
                truth &= readUnit(depth);
            }
            return truth;
        }

        private long readUnit(int depth) {
            int sign = next();
            if (sign == '!' || sign == '(') {
                if (depth >= MOST_DEEP) {
                    return fail();
                }
                place++;
                return sign == '!' ? ALL & ~readUnit(depth + 1) : readToBracket(depth + 1);
            }
            int letter = sign - 'a';
            if (letter >= 0 && letter < LETTERS.length) {
                place++;
                return LETTERS[letter];
            }
            if (sign != '0' && sign != '1') {
                return fail();
            }
            place++;
            return sign == '1' ? ALL : 0L;
        }

        private long readToBracket(int depth) {
            long truth = readOr(depth);
            if (fault != NO_FAULT || next() != ')') {
                return fail();
            }
            place++;
            return truth;
        }
    }

    /** A NET; FACES are told as 10 times PIECE and FACE, and have the place 5 times PIECE and FACE. */
    private static final class Net {
        static final int MOST_PIECES = 8;
        static final int MOST_LINKS = 12;
        private static final int FACES = Board.MOST_FACES;
        private static final long PRIME = 1000000007L;
        private static final int CLASH = -1;

        final Board[] pieces = new Board[MOST_PIECES];
        int pieceCount;
        int linkCount;
        /** By place: 0 in no LINK, else the LINK's number and 1. */
        private final int[] links = new int[MOST_PIECES * FACES];
        /** By place: the bit that holds its STATE: LINKS have the low ones, FREE FACES those above. */
        private final int[] slots = new int[MOST_PIECES * FACES];

        /** The caller has seen that there is room. */
        int addPiece(Board board) {
            pieces[pieceCount] = board;
            pieceCount++;
            return pieceCount - 1;
        }

        /** The caller has seen that both are there and in no LINK, and that there is room. */
        int addLink(int a, int b) {
            linkCount++;
            links[placeOf(a)] = linkCount;
            links[placeOf(b)] = linkCount;
            return linkCount;
        }

        boolean hasFace(int told) {
            return told >= 0 && told % 10 < facesOf(told / 10);
        }

        boolean isLinked(int told) {
            return hasFace(told) && links[placeOf(told)] != 0;
        }

        int freeCount() {
            int free = 0;
            for (int piece = 0; piece < pieceCount; piece++) {
                for (int face = 0; face < facesOf(piece); face++) {
                    free += links[FACES * piece + face] == 0 ? 1 : 0;
                }
            }
            return free;
        }

        int freeFace(int i) {
            int free = 0;
            for (int piece = 0; piece < pieceCount; piece++) {
                for (int face = 0; face < facesOf(piece); face++) {
                    if (links[FACES * piece + face] == 0) {
                        if (free == i) {
                            return 10 * piece + face;
                        }
                        free++;
                    }
                }
            }
            return NONE;
        }

        boolean letsState(int state) {
            return sumInState(state, true) > 0;
        }

        int waysInState(int state) {
            return (int) sumInState(state, false);
        }

        private static int placeOf(int told) {
            return FACES * (told / 10) + told % 10;
        }

        private int facesOf(int piece) {
            if (piece < 0 || piece >= pieceCount) {
                return 0;
            }
            Board board = pieces[piece];
            return board == null ? 0 : board.faces;
        }

        private long sumInState(int state, boolean any) {
            giveSlots();
            int freeSlots = ((1 << freeCount()) - 1) << MOST_LINKS;
            return sumFrom(this, 0, freeSlots, state << MOST_LINKS, any);
        }

        private void giveSlots() {
            int next = MOST_LINKS;
            for (int piece = 0; piece < pieceCount; piece++) {
                for (int face = 0; face < facesOf(piece); face++) {
                    int place = FACES * piece + face;
                    slots[place] = links[place] == 0 ? next : links[place] - 1;
                    next += links[place] == 0 ? 1 : 0;
                }
            }
        }

        /** HOW MANY of the PIECES from one on, where known slots hold value; any: 1, if there is any, else 0. */
        private static long sumFrom(Net net, int piece, int known, int value, boolean any) {
            if (piece >= net.pieceCount || piece >= MOST_PIECES) {
                return 1;
            }
            Board board = net.pieces[piece];
            if (board == null) {
                return 0;
            }
            int mine = net.slotsOf(piece);
            long sum = 0;
            for (int state = 0; state < board.states(); state++) {
                long ways = board.tilings[state];
                int bits = ways == 0 ? CLASH : net.bitsIn(piece, state);
                if (bits == CLASH || ((bits ^ value) & mine & known) != 0) {
                    continue;
                }
                long rest = sumFrom(net, piece + 1, known | mine, value | bits, any);
                if (any && rest > 0) {
                    return 1;
                }
                sum = (sum + ways * rest) % PRIME;
            }
            return sum;
        }

        private int slotsOf(int piece) {
            int all = 0;
            for (int face = 0; face < facesOf(piece); face++) {
                all |= 1 << slots[FACES * piece + face];
            }
            return all;
        }

        /** The slots that a PIECE's STATE sets; CLASH, if it tells the two ends of one LINK otherwise. */
        private int bitsIn(int piece, int state) {
            int ones = 0;
            int zeros = 0;
            for (int face = 0; face < facesOf(piece); face++) {
                int bit = 1 << slots[FACES * piece + face];
                if ((state >> face & 1) != 0) {
                    ones |= bit;
                } else {
                    zeros |= bit;
                }
            }
            return (ones & zeros) == 0 ? ones : CLASH;
        }
    }

    /** THE FLOOR and the PARTS LAID on it. */
    private static final class Floor {
        static final int SIDE = 12;
        static final int MOST_LAID = 10;

        private final Board[] boards = new Board[MOST_LAID];
        private final int[] lefts = new int[MOST_LAID];
        private final int[] tops = new int[MOST_LAID];
        int laidCount;

        /** The caller has seen that there is room. */
        int add(Board board, int x, int y) {
            boards[laidCount] = board;
            lefts[laidCount] = x;
            tops[laidCount] = y;
            laidCount++;
            return laidCount - 1;
        }

        boolean hasFace(int laid, int face) {
            return face >= 0 && face < facesOf(laid);
        }

        int firstOverlap() {
            for (int first = 0; first < laidCount; first++) {
                for (int second = first + 1; second < laidCount; second++) {
                    if (overlaps(first, second)) {
                        return 10 * first + second;
                    }
                }
            }
            return NONE;
        }

        /** What a FACE MEETS after so many others; NONE, if it MEETS no more. */
        int metBy(int laid, int face, int after) {
            int met = 0;
            for (int other = 0; other < laidCount; other++) {
                for (int otherFace = 0; other != laid && otherFace < facesOf(other); otherFace++) {
                    if (distance(laid, face, other, otherFace) == 1) {
                        if (met == after) {
                            return 10 * other + otherFace;
                        }
                        met++;
                    }
                }
            }
            return NONE;
        }

        int firstLeak() {
            for (int laid = 0; laid < laidCount; laid++) {
                if (hasCrowdedFace(laid) || hasOpenSide(laid)) {
                    return laid;
                }
            }
            return NONE;
        }

        /** How many pairs of FACES MEET. */
        int meetings() {
            int pairs = 0;
            for (int laid = 0; laid < laidCount; laid++) {
                for (int face = 0; face < facesOf(laid); face++) {
                    pairs += metBy(laid, face, 0) > 10 * laid + face ? 1 : 0;
                }
            }
            return pairs;
        }

        /** Where nothing leaks, a FACE MEETS one other at most. */
        Net asNet() {
            Net made = new Net();
            for (int laid = 0; laid < laidCount; laid++) {
                Board board = boards[laid];
                if (board != null) {
                    made.addPiece(board);
                }
            }
            for (int laid = 0; laid < laidCount; laid++) {
                for (int face = 0; face < facesOf(laid); face++) {
                    int met = metBy(laid, face, 0);
                    if (met > 10 * laid + face) {
                        made.addLink(10 * laid + face, met);
                    }
                }
            }
            return made;
        }

        private int facesOf(int laid) {
            if (laid < 0 || laid >= laidCount) {
                return 0;
            }
            Board board = boards[laid];
            return board == null ? 0 : board.faces;
        }

        /** The code that a LAID one has at a CELL of THE FLOOR (BLOCKED beyond it). */
        private int codeOn(int laid, int x, int y) {
            Board board = boards[laid];
            return board == null ? Board.BLOCKED : board.codeAt(x - lefts[laid], y - tops[laid]);
        }

        private boolean overlaps(int first, int second) {
            for (int y = 0; y < SIDE; y++) {
                for (int x = 0; x < SIDE; x++) {
                    if (codeOn(first, x, y) != Board.BLOCKED && codeOn(second, x, y) != Board.BLOCKED) {
                        return true;
                    }
                }
            }
            return false;
        }

        /** Steps from side to side between two FACES. */
        private int distance(int laid, int face, int other, int otherFace) {
            return Math.abs(faceX(laid, face) - faceX(other, otherFace))
                    + Math.abs(faceY(laid, face) - faceY(other, otherFace));
        }

        private int faceX(int laid, int face) {
            Board board = boards[laid];
            return board == null ? -1 : lefts[laid] + board.facePlaces[face] % Board.STRIDE;
        }

        private int faceY(int laid, int face) {
            Board board = boards[laid];
            return board == null ? -1 : tops[laid] + board.facePlaces[face] / Board.STRIDE;
        }

        private boolean hasCrowdedFace(int laid) {
            for (int face = 0; face < facesOf(laid); face++) {
                if (metBy(laid, face, 1) != NONE) {
                    return true;
                }
            }
            return false;
        }

        private boolean hasOpenSide(int laid) {
            for (int y = 0; y < SIDE; y++) {
                for (int x = 0; x < SIDE; x++) {
                    if (codeOn(laid, x, y) == Board.OPEN && (isOthers(laid, x + 1, y) || isOthers(laid, x - 1, y)
                            || isOthers(laid, x, y + 1) || isOthers(laid, x, y - 1))) {
                        return true;
                    }
                }
            }
            return false;
        }

        private boolean isOthers(int laid, int x, int y) {
            for (int other = 0; other < laidCount; other++) {
                if (other != laid && codeOn(other, x, y) != Board.BLOCKED) {
                    return true;
                }
            }
            return false;
        }
    }
}
