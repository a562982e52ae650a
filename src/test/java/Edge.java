/** What the tests of boundary cases share: objects made ready, calls that are refused, and that nothing else changes. */
final class Edge {
    /** Brings a new object to where a boundary is. */
    interface Ready {
        void make(PuzzleParts x);
    }

    interface Call {
        long on(PuzzleParts x);
    }

    private static final long LONG_REFUSAL = 4000000000000000000L;

    private final Due due;

    Edge(Due due) {
        this.due = due;
    }

    static PuzzleParts made(Ready ready) {
        PuzzleParts x = new PuzzleParts();
        ready.make(x);
        return x;
    }

    /** PARTS of one CELL up to so many. */
    static void fillParts(PuzzleParts x, int upTo) {
        for (int have = x.count(0); have < upTo; have++) {
            Due.part(x, ".");
        }
    }

    static void fillFormulas(PuzzleParts x, int upTo) {
        for (int have = x.count(1); have < upTo; have++) {
            Due.formula(x, "a");
        }
    }

    static void fillNets(PuzzleParts x, int upTo) {
        for (int have = x.count(2); have < upTo; have++) {
            x.net();
        }
    }

    /** Bytes (of no text that stands) onto THE TAPE up to so many. */
    static void fillTape(PuzzleParts x, int upTo) {
        for (int have = x.count(4); have < upTo; have += Math.min(8, upTo - have)) {
            x.feed(Math.min(8, upTo - have), 0);
        }
    }

    /** A BOARD of OPEN CELLS. */
    static String plain(int wide, int high) {
        StringBuilder text = new StringBuilder();
        for (int y = 0; y < high; y++) {
            text.append(y == 0 ? "" : "/").append(".".repeat(wide));
        }
        return text.toString();
    }

    /** So many FACES, in a line. */
    static String faces(int number) {
        return "01234".substring(0, number);
    }

    void refused(String name, Ready ready, Call call, int number) {
        refused(name, ready, call, number, number);
    }

    void refusedLong(String name, Ready ready, Call call, int number) {
        refused(name, ready, call, number, LONG_REFUSAL - number);
    }

    /** It answers so, this REFUSAL is counted once more, and another object of the same kind tells and does the same. */
    private void refused(String name, Ready ready, Call call, int number, long want) {
        PuzzleParts x = made(ready);
        PuzzleParts untouched = made(ready);
        int[] before = refusals(x);
        due.is(name, call.on(x), want);
        int[] after = refusals(x);
        for (int i = 1; i <= 6; i++) {
            due.is("count(1" + i + ") after " + name, after[i], before[i] + (i == -number ? 1 : 0));
        }
        due.same("what is there after " + name, told(x), told(untouched));
        due.same("what THE TAPE, THE ROW and THE FLOOR give after " + name, used(x), used(untouched));
    }

    private static int[] refusals(PuzzleParts x) {
        int[] counts = new int[7];
        for (int i = 1; i <= 6; i++) {
            counts[i] = x.count(10 + i);
        }
        return counts;
    }

    /** In some 120 calls at most. */
    private static String told(PuzzleParts x) {
        StringBuilder all = new StringBuilder();
        for (int what = 0; what <= 5; what++) {
            all.append(x.count(what)).append(' ');
        }
        for (int part = 0; part < x.count(0); part++) {
            all.append(x.partOf(part, 3)).append(':').append(x.lets(part)).append(' ');
        }
        for (int formula = 0; formula < x.count(1); formula++) {
            all.append(x.means(formula, 5)).append(' ');
        }
        for (int net = 0; net < x.count(2); net++) {
            all.append(x.free(net, -1)).append(':').append(x.howMany(net, 0)).append(' ');
        }
        for (int laid = 0; laid < x.count(3); laid++) {
            all.append(x.meets(laid, 0)).append(' ');
        }
        return all.append(x.overlap()).append(' ').append(x.leak()).toString();
    }

    /** What can be seen only by using it up. */
    private static String used(PuzzleParts x) {
        StringBuilder all = new StringBuilder();
        int found = x.find(3, 3, 0);
        all.append(found).append(found < 0 ? "" : Due.shown(x, found)).append(' ');
        int part = x.part();
        all.append(part).append(part < 0 ? "" : Due.shown(x, part)).append(' ');
        all.append(x.formula()).append(' ').append(x.floorNet()).append(' ').append(x.clear());
        return all.toString();
    }
}
