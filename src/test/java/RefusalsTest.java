/**
 * REFUSALS of all calls: each alone, each ahead of those that the document tells after it; each is counted once, and
 * nothing else changes. And the last calls that an object is used for.
 */
public final class RefusalsTest {
    private static final Due DUE = new Due("RefusalsTest");
    private static final Edge EDGE = new Edge(DUE);
    private static final Edge.Ready NEW = x -> { };

    public static void main(String[] args) {
        texts();
        formulas();
        tellings();
        madeParts();
        rowAndFind();
        nets();
        links();
        statesOfNets();
        floor();
        floorNets();
        noRefusals();
        longs();
        lastCalls();
        manyRefusals();
        DUE.end();
    }

    /** Some of everything: PARTS 0 .. 4, FORMULAS 0 and 1, NETS 0 and 1, two LAID, bytes and CELLS. */
    private static void some(PuzzleParts x) {
        String[] texts = {"0.1", "....0", "01234", "..#", "0"};
        for (String text : texts) {
            Due.part(x, text);
        }
        Due.formula(x, "a");
        Due.formula(x, "a&!b|!a&b");
        x.net();
        x.piece(0, 0);
        x.piece(0, 0);
        x.link(0, 1, 10);
        x.net();
        x.lay(0, 0, 0);
        x.lay(0, 3, 0);
        Due.feed(x, "0.#");
        x.put(0);
        x.put(20);
    }

    private static Edge.Ready full(String what) {
        return x -> {
            some(x);
            switch (what) {
                case "TAPE":
                    Edge.fillTape(x, 40);
                    break;
                case "PARTS":
                    x.feed(1, '\n');
                    x.part();
                    Edge.fillParts(x, 24);
                    x.feed(2, Due.bytes(".."));
                    break;
                case "FORMULAS":
                    x.part();
                    Edge.fillFormulas(x, 20);
                    x.feed(1, 'b');
                    break;
                case "ROW":
                    x.put(11);
                    break;
                case "NETS":
                    Edge.fillNets(x, 6);
                    break;
                case "PIECES":
                    for (int i = 0; i < 6; i++) {
                        x.piece(0, 0);
                    }
                    break;
                case "LINKS":
                    for (int i = 0; i < 6; i++) {
                        x.piece(1, 2);
                    }
                    for (int i = 0; i < 12; i++) {
                        x.link(1, 10 * (i / 5) + i % 5, 30 + 10 * (i / 5) + i % 5);
                    }
                    break;
                case "FREE":
                    x.piece(1, 2);
                    x.piece(1, 2);
                    x.piece(1, 4);
                    break;
                default:
                    for (int i = 0; i < 8; i++) {
                        x.lay(4, i, 4 + i % 2 * 2);
                    }
            }
        };
    }

    private static void refused(String name, Edge.Call call, int number) {
        EDGE.refused(name, RefusalsTest::some, call, number);
    }

    /** Promises 2 to 4. */
    private static void texts() {
        refused("feed(0, ..)", x -> x.feed(0, 46), -4);
        refused("feed(9, ..)", x -> x.feed(9, 46), -6);
        EDGE.refused("feed(1, ..) onto 40", full("TAPE"), x -> x.feed(1, 46), -6);
        EDGE.refused("feed(0, ..) onto 40", full("TAPE"), x -> x.feed(0, 46), -4);
        EDGE.refused("feed(9, ..) onto 40", full("TAPE"), x -> x.feed(9, 46), -6);
        EDGE.refused("feed(8, ..) onto 33", x -> Edge.fillTape(x, 33), x -> x.feed(8, 46), -6);
        EDGE.refused("part() of 24", full("PARTS"), PuzzleParts::part, -6);
        EDGE.refused("part() of 24, a FAULT", x -> {
            full("PARTS").make(x);
            x.feed(1, 'x');
        }, PuzzleParts::part, -6);
        EDGE.refused("part() of 24, THE TAPE empty", x -> Edge.fillParts(x, 24), PuzzleParts::part, -6);
        refused("partOf(5, 0)", x -> x.partOf(5, 0), -1);
        refused("partOf(5, 4)", x -> x.partOf(5, 4), -1);
        refused("partOf(0, 4)", x -> x.partOf(0, 4), -2);
        refused("partOf(0, -1)", x -> x.partOf(0, -1), -2);
    }

    /** Promises 10 and 11. */
    private static void formulas() {
        EDGE.refused("formula() of 20", full("FORMULAS"), PuzzleParts::formula, -6);
        EDGE.refused("formula() of 20, a FAULT", x -> {
            full("FORMULAS").make(x);
            x.feed(1, 'x');
        }, PuzzleParts::formula, -6);
        EDGE.refused("formula() of 20, THE TAPE empty", x -> Edge.fillFormulas(x, 20), PuzzleParts::formula, -6);
        EDGE.refusedLong("means(2, 0)", RefusalsTest::some, x -> x.means(2, 0), -1);
        EDGE.refusedLong("means(2, -1)", RefusalsTest::some, x -> x.means(2, -1), -1);
        EDGE.refusedLong("means(2, 6)", RefusalsTest::some, x -> x.means(2, 6), -1);
        EDGE.refusedLong("means(0, -1)", RefusalsTest::some, x -> x.means(0, -1), -4);
        EDGE.refusedLong("means(0, 6)", RefusalsTest::some, x -> x.means(0, 6), -6);
    }

    /** Promises 5 to 9, 12, 13, 18 and 19. */
    private static void tellings() {
        refused("cell(5, 0)", x -> x.cell(5, 0), -1);
        refused("cell(0, 30)", x -> x.cell(0, 30), -1);
        refused("cell(0, 1)", x -> x.cell(0, 1), -1);
        EDGE.refusedLong("lets(5)", RefusalsTest::some, x -> x.lets(5), -1);
        EDGE.refusedLong("barred(5)", RefusalsTest::some, x -> x.barred(5), -1);
        refused("ways(5, 0)", x -> x.ways(5, 0), -1);
        refused("ways(0, 4)", x -> x.ways(0, 4), -1);
        refused("covered(5, 0, 0)", x -> x.covered(5, 0, 0), -1);
        refused("covered(0, 4, 0)", x -> x.covered(0, 4, 0), -1);
        refused("covered(0, 1, 30)", x -> x.covered(0, 1, 30), -1);
        refused("covered(0, 0, 30): no TILING either", x -> x.covered(0, 0, 30), -1);
        refused("does(5, 0)", x -> x.does(5, 0), -1);
        refused("does(0, 2)", x -> x.does(0, 2), -1);
        refused("misses(5, 0)", x -> x.misses(5, 0), -1);
        refused("misses(0, 2)", x -> x.misses(0, 2), -1);
        refused("alike(5, 0)", x -> x.alike(5, 0), -1);
        refused("alike(0, 5)", x -> x.alike(0, 5), -1);
        refused("needless(5)", x -> x.needless(5), -1);
    }

    /** Promises 14 to 17. */
    private static void madeParts() {
        refused("turn(5)", x -> x.turn(5), -1);
        refused("turn of 5 WIDE", x -> x.turn(1), -3);
        EDGE.refused("turn of 24", full("PARTS"), x -> x.turn(0), -6);
        EDGE.refused("turn of 24, no PART", full("PARTS"), x -> x.turn(24), -1);
        EDGE.refused("turn of 24, 5 WIDE", full("PARTS"), x -> x.turn(1), -6);
        refused("mirror(5)", x -> x.mirror(5), -1);
        EDGE.refused("mirror of 24", full("PARTS"), x -> x.mirror(0), -6);
        EDGE.refused("mirror of 24, no PART", full("PARTS"), x -> x.mirror(24), -1);
        refused("less(5, 0)", x -> x.less(5, 0), -1);
        refused("less(0, 30)", x -> x.less(0, 30), -1);
        refused("less of a FACE", x -> x.less(0, 0), -3);
        refused("less of a BLOCKED one", x -> x.less(3, 20), -3);
        EDGE.refused("less of 24", full("PARTS"), x -> x.less(0, 10), -6);
        EDGE.refused("less of 24, a FACE", full("PARTS"), x -> x.less(0, 0), -3);
        EDGE.refused("less of 24, no CELL", full("PARTS"), x -> x.less(0, 30), -1);
        EDGE.refused("less of 24, no PART", full("PARTS"), x -> x.less(24, 0), -1);
        refused("rename(5, 10)", x -> x.rename(5, 10), -1);
        refused("rename(5, 11)", x -> x.rename(5, 11), -1);
        refused("rename(0, 11)", x -> x.rename(0, 11), -3);
        EDGE.refused("rename of 24", full("PARTS"), x -> x.rename(0, 10), -6);
        EDGE.refused("rename of 24, no permutation", full("PARTS"), x -> x.rename(0, 11), -3);
        EDGE.refused("rename of 24, no PART", full("PARTS"), x -> x.rename(24, 11), -1);
    }

    /** Promises 20 and 21. */
    private static void rowAndFind() {
        refused("put(-1)", x -> x.put(-1), -4);
        refused("put(100)", x -> x.put(100), -6);
        EDGE.refused("put of a fourth", full("ROW"), x -> x.put(1), -6);
        EDGE.refused("put(-1) of a fourth", full("ROW"), x -> x.put(-1), -4);
        refused("find(3, 1, 2)", x -> x.find(3, 1, 2), -1);
        refused("find(0, 5, 2)", x -> x.find(0, 5, 2), -1);
        refused("find(0, 1, 0)", x -> x.find(0, 1, 0), -4);
        refused("find(3, 0, 0)", x -> x.find(3, 0, 0), -4);
        refused("find(6, 0, 0)", x -> x.find(6, 0, 0), -4);
        refused("find(6, 1, 0)", x -> x.find(6, 1, 0), -6);
        refused("find(3, 5, 0)", x -> x.find(3, 5, 0), -6);
        refused("find(5, 2, 0)", x -> x.find(5, 2, 0), -6);
        refused("find(2, 2, 0): one beyond", x -> x.find(2, 2, 0), -3);
        EDGE.refused("find: one twice", x -> {
            some(x);
            x.put(0);
        }, x -> x.find(3, 1, 0), -3);
        EDGE.refused("find: no ROW", x -> {
            some(x);
            x.find(3, 1, 1);
        }, x -> x.find(3, 1, 0), -3);
        EDGE.refused("find: no ROW, 6 WIDE", x -> Due.formula(x, "a"), x -> x.find(6, 1, 0), -6);
        EDGE.refused("find: no ROW, 0 WIDE", x -> Due.formula(x, "a"), x -> x.find(0, 1, 0), -4);
        EDGE.refused("find: no ROW, no FORMULA", NEW, x -> x.find(3, 1, 0), -1);
        EDGE.refused("find of 24", full("PARTS"), x -> x.find(3, 1, 1), -6);
        EDGE.refused("find of 24, one beyond", full("PARTS"), x -> x.find(2, 1, 1), -6);
        EDGE.refused("find of 24, 0 WIDE", full("PARTS"), x -> x.find(0, 1, 1), -4);
        EDGE.refused("find of 24, no FORMULA", full("PARTS"), x -> x.find(3, 1, 2), -1);
    }

    /** Promises 22, 23, 25 and 28. */
    private static void nets() {
        EDGE.refused("net() of 6", full("NETS"), PuzzleParts::net, -6);
        refused("piece(2, 0)", x -> x.piece(2, 0), -1);
        refused("piece(0, 5)", x -> x.piece(0, 5), -1);
        EDGE.refused("piece of 8", full("PIECES"), x -> x.piece(0, 0), -6);
        EDGE.refused("piece of 8, no PART", full("PIECES"), x -> x.piece(0, 5), -1);
        EDGE.refused("piece of 8, no NET", full("PIECES"), x -> x.piece(2, 0), -1);
        refused("free(2, 0)", x -> x.free(2, 0), -1);
        refused("free(2, -1)", x -> x.free(2, -1), -1);
        refused("free(0, -2)", x -> x.free(0, -2), -1);
        refused("netDoes(2, 0)", x -> x.netDoes(2, 0), -1);
        refused("netDoes(0, 2)", x -> x.netDoes(0, 2), -1);
    }

    /** Promise 24. */
    private static void links() {
        refused("link(2, 0, 11)", x -> x.link(2, 0, 11), -1);
        refused("link(0, 2, 11)", x -> x.link(0, 2, 11), -1);
        refused("link(0, 0, 20)", x -> x.link(0, 0, 20), -1);
        refused("link(0, 20, 20)", x -> x.link(0, 20, 20), -1);
        refused("link(0, 0, 0)", x -> x.link(0, 0, 0), -3);
        refused("link(0, 1, 0)", x -> x.link(0, 1, 0), -3);
        refused("link(0, 0, 10)", x -> x.link(0, 0, 10), -3);
        refused("link(0, 1, 20): in a LINK, and none", x -> x.link(0, 1, 20), -1);
        EDGE.refused("link of 12", full("LINKS"), x -> x.link(1, 22, 23), -6);
        EDGE.refused("link of 12, both are one", full("LINKS"), x -> x.link(1, 22, 22), -3);
        EDGE.refused("link of 12, one in a LINK", full("LINKS"), x -> x.link(1, 22, 0), -3);
        EDGE.refused("link of 12, no FACE", full("LINKS"), x -> x.link(1, 22, 60), -1);
        EDGE.refused("link of 12, no NET", full("LINKS"), x -> x.link(2, 22, 23), -1);
    }

    /** Promises 26 and 27. */
    private static void statesOfNets() {
        refused("netLets(2, 0)", x -> x.netLets(2, 0), -1);
        refused("netLets(0, 4)", x -> x.netLets(0, 4), -1);
        refused("netLets(0, -1)", x -> x.netLets(0, -1), -1);
        refused("howMany(2, 0)", x -> x.howMany(2, 0), -1);
        refused("howMany(0, 4)", x -> x.howMany(0, 4), -1);
        refused("howMany(0, -1)", x -> x.howMany(0, -1), -1);
        EDGE.refused("netLets of 11 FREE", full("FREE"), x -> x.netLets(1, 0), -3);
        EDGE.refused("netLets of 11 FREE, no STATE", full("FREE"), x -> x.netLets(1, -1), -3);
        EDGE.refused("netLets of 11 FREE, no NET", full("FREE"), x -> x.netLets(2, -1), -1);
        EDGE.refused("howMany of 11 FREE", full("FREE"), x -> x.howMany(1, 0), -3);
        EDGE.refused("howMany of 11 FREE, no STATE", full("FREE"), x -> x.howMany(1, 2048), -3);
        EDGE.refused("howMany of 11 FREE, no NET", full("FREE"), x -> x.howMany(2, 2048), -1);
    }

    /** Promises 29 and 31. */
    private static void floor() {
        refused("lay(5, 0, 0)", x -> x.lay(5, 0, 0), -1);
        refused("lay(5, -1, 12)", x -> x.lay(5, -1, 12), -1);
        refused("lay(0, -1, 0)", x -> x.lay(0, -1, 0), -4);
        refused("lay(0, 0, -1)", x -> x.lay(0, 0, -1), -4);
        refused("lay(0, 10, -1)", x -> x.lay(0, 10, -1), -4);
        refused("lay(0, 10, 0)", x -> x.lay(0, 10, 0), -6);
        refused("lay(0, 0, 12)", x -> x.lay(0, 0, 12), -6);
        EDGE.refused("lay of 10", full("FLOOR"), x -> x.lay(0, 0, 0), -6);
        EDGE.refused("lay of 10, below", full("FLOOR"), x -> x.lay(0, 0, -1), -4);
        EDGE.refused("lay of 10, no PART", full("FLOOR"), x -> x.lay(5, 0, -1), -1);
        refused("meets(2, 0)", x -> x.meets(2, 0), -1);
        refused("meets(0, 2)", x -> x.meets(0, 2), -1);
        refused("meets(0, -1)", x -> x.meets(0, -1), -1);
        refused("meets(-1, 0)", x -> x.meets(-1, 0), -1);
    }

    /** Promise 33. */
    private static void floorNets() {
        EDGE.refused("floorNet of nothing", NEW, PuzzleParts::floorNet, -3);
        EDGE.refused("floorNet with OVERLAP", x -> {
            some(x);
            x.lay(0, 2, 0);
        }, PuzzleParts::floorNet, -3);
        EDGE.refused("floorNet with LEAK", x -> {
            some(x);
            x.lay(0, 0, 1);
        }, PuzzleParts::floorNet, -3);
        EDGE.refused("floorNet of 6 NETS", full("NETS"), PuzzleParts::floorNet, -6);
        EDGE.refused("floorNet of 10 PIECES", full("FLOOR"), PuzzleParts::floorNet, -6);
        EDGE.refused("floorNet of 13 LINKS", x -> {
            some(x);
            x.clear();
            x.part();
            int two = Due.part(x, "01");
            for (int i = 0; i < 4; i++) {
                x.lay(2, i / 2 * 6, i % 2);
            }
            x.lay(two, 0, 4);
            x.lay(two, 0, 5);
            x.lay(4, 4, 4);
            x.lay(4, 4, 5);
        }, PuzzleParts::floorNet, -6);
        EDGE.refused("floorNet of 6 NETS and nothing", x -> Edge.fillNets(x, 6), PuzzleParts::floorNet, -3);
        EDGE.refused("floorNet of 6 NETS and OVERLAP", x -> {
            full("NETS").make(x);
            x.lay(0, 2, 0);
        }, PuzzleParts::floorNet, -3);
        EDGE.refused("floorNet of 6 NETS and LEAK", x -> {
            full("NETS").make(x);
            x.lay(3, 0, 1);
        }, PuzzleParts::floorNet, -3);
    }

    /** What answers -9, or -20 less a place, is no REFUSAL; nor is 0. */
    private static void noRefusals() {
        PuzzleParts x = new PuzzleParts();
        some(x);
        long[] answers = {x.part(), x.part(), x.formula(), x.covered(0, 0, 0), x.misses(0, 1), x.free(0, 2),
            x.find(3, 2, 0), x.overlap(), x.meets(0, 0), x.leak(), x.count(6), x.count(10), x.count(17), x.count(-1)};
        long[] due = {5, -20, -20, -9, -9, -9, -9, -9, -9, -9, -9, -9, -9, -9};
        for (int i = 0; i < due.length; i++) {
            DUE.is("answer " + i, answers[i], due[i]);
        }
        for (int what = 11; what <= 16; what++) {
            DUE.is("count(" + what + ")", x.count(what), 0);
        }
    }

    /** "Longs that are REFUSALS are 4000000000000000000 less them (-1 as 4000000000000000001)." */
    private static void longs() {
        PuzzleParts x = new PuzzleParts();
        DUE.is("lets(0)", x.lets(0), 4000000000000000001L);
        DUE.is("barred(0)", x.barred(0), 4000000000000000001L);
        DUE.is("means(0, 0)", x.means(0, 0), 4000000000000000001L);
        Due.formula(x, "a");
        DUE.is("means(0, -1)", x.means(0, -1), 4000000000000000004L);
        DUE.is("means(0, 6)", x.means(0, 6), 4000000000000000006L);
        int[] due = {3, 0, 0, 1, 0, 1};
        for (int i = 0; i < 6; i++) {
            DUE.is("count(1" + (i + 1) + ")", x.count(11 + i), due[i]);
        }
    }

    /** "used for at most 512 calls": the last ones are as good as the first. */
    private static void lastCalls() {
        PuzzleParts x = new PuzzleParts();
        for (int i = 0; i < 100; i++) {
            x.feed(1, '?');
            DUE.is("part() of a FAULT", x.part(), -20);
            x.feed(1, '?');
            DUE.is("formula() of a FAULT", x.formula(), -20);
        }
        x.feed(2, Due.bytes("01"));
        DUE.is("part() after 400 calls", x.part(), 0);
        for (int i = 0; i < 36; i++) {
            DUE.is("lay", x.lay(0, 0, 0), 0);
            DUE.is("clear", x.clear(), 1);
            DUE.is("lets", x.lets(0), 9);
        }
        DUE.is("put after 510 calls", x.put(0), 1);
        DUE.is("the 512th call", x.ways(0, 3), 1);
        PuzzleParts y = new PuzzleParts();
        y.feed(1, '0');
        y.formula();
        for (int i = 0; i < 255; i++) {
            DUE.is("put", y.put(0), 1);
            DUE.is("find of none", y.find(1, 1, 0), -9);
        }
    }

    /** REFUSALS are counted without an end, as far as an object is used. */
    private static void manyRefusals() {
        PuzzleParts x = new PuzzleParts();
        for (int i = 0; i < 511; i++) {
            x.needless(0);
        }
        DUE.is("count(11), the 512th call", x.count(11), 511);
        PuzzleParts y = new PuzzleParts();
        for (int i = 0; i < 255; i++) {
            y.feed(0, 0);
            y.feed(9, 0);
        }
        DUE.is("count(14)", y.count(14), 255);
        DUE.is("count(16), the 512th call", y.count(16), 255);
    }
}
