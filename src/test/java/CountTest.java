/** Promise 35: what there is of each, and how often each REFUSAL was told. */
public final class CountTest {
    private static final Due DUE = new Due("CountTest");

    public static void main(String[] args) {
        counts();
        refusalsOfAllCalls();
        full();
        allOthers();
        DUE.end();
    }

    private static void all(PuzzleParts x, String when, int... want) {
        for (int what = 0; what < 6; what++) {
            DUE.is("count(" + what + ") " + when, x.count(what), want[what]);
        }
        for (int what = 6; what < 12; what++) {
            DUE.is("count(" + (what + 5) + ") " + when, x.count(what + 5), want[what]);
        }
    }

    private static void counts() {
        PuzzleParts x = new PuzzleParts();
        all(x, "at first", 0, 0, 0, 0, 0, 0, 0, 0, 0, 0, 0, 0);
        int[] others = {-1, 6, 7, 8, 9, 10, 17, 100, -11, Integer.MIN_VALUE, Integer.MAX_VALUE};
        for (int what : others) {
            DUE.is("count(" + what + ")", x.count(what), -9);
        }
        all(x, "after others", 0, 0, 0, 0, 0, 0, 0, 0, 0, 0, 0, 0);
        Due.part(x, "0.1");
        Due.part(x, "..");
        Due.formula(x, "a");
        x.net();
        x.net();
        x.net();
        x.lay(0, 0, 0);
        x.lay(0, 0, 0);
        x.lay(0, 0, 0);
        x.lay(0, 0, 0);
        x.feed(5, 0);
        x.put(11);
        x.put(12);
        all(x, "with some of each", 2, 1, 3, 4, 5, 2, 0, 0, 0, 0, 0, 0);
        x.partOf(2, 9);
        x.partOf(0, 9);
        x.find(2, 2, 0);
        x.find(0, 0, 0);
        x.find(9, 9, 0);
        x.find(9, 9, 0);
        all(x, "with REFUSALS", 2, 1, 3, 4, 5, 2, 1, 1, 1, 1, 0, 2);
        x.overlap();
        x.meets(0, 0);
        x.misses(0, 0);
        x.part();
        all(x, "after what is no REFUSAL", 2, 1, 3, 4, 0, 2, 1, 1, 1, 1, 0, 2);
    }

    /** A call that is refused for several reasons tells the first, and counts it alone. */
    private static void refusalsOfAllCalls() {
        PuzzleParts x = new PuzzleParts();
        x.lets(0);
        x.barred(-1);
        x.means(0, -1);
        all(x, "after longs", 0, 0, 0, 0, 0, 0, 3, 0, 0, 0, 0, 0);
        x.alike(7, 8);
        x.link(3, -1, -1);
        x.covered(1, 2, 3);
        x.lay(5, -1, 40);
        x.find(0, 9, 3);
        x.netLets(2, -1);
        all(x, "after NOBODY", 0, 0, 0, 0, 0, 0, 9, 0, 0, 0, 0, 0);
        Due.part(x, "0.1");
        x.lay(0, -1, 40);
        x.feed(0, 0);
        x.feed(99, 0);
        all(x, "after BELOW and ROOM", 1, 0, 0, 0, 0, 0, 9, 0, 0, 2, 0, 1);
        x.rename(0, 5);
        x.less(0, 0);
        x.floorNet();
        all(x, "after STATE", 1, 0, 0, 0, 0, 0, 9, 0, 3, 2, 0, 1);
    }

    /** Each at the greatest number that the document names, one below it, and after one more that is refused. */
    private static void full() {
        PuzzleParts x = new PuzzleParts();
        Edge.fillParts(x, 23);
        Edge.fillFormulas(x, 19);
        Edge.fillNets(x, 5);
        for (int i = 0; i < 9; i++) {
            x.lay(0, 0, 0);
        }
        Edge.fillTape(x, 39);
        x.put(0);
        x.put(0);
        all(x, "one below", 23, 19, 5, 9, 39, 2, 0, 0, 0, 0, 0, 0);
        x.mirror(0);
        x.net();
        x.lay(0, 0, 0);
        x.put(0);
        x.feed(1, 'a');
        all(x, "when full, but of FORMULAS", 24, 19, 6, 10, 40, 3, 0, 0, 0, 0, 0, 0);
        x.mirror(0);
        x.part();
        x.net();
        x.lay(0, 0, 0);
        x.put(0);
        x.feed(1, 'a');
        all(x, "when all are refused", 24, 19, 6, 10, 40, 3, 0, 0, 0, 0, 0, 6);
        x.formula();
        x.feed(1, 'a');
        x.formula();
        x.formula();
        all(x, "when full of FORMULAS", 24, 20, 6, 10, 0, 3, 0, 0, 0, 0, 0, 7);
        x.clear();
        all(x, "after clear()", 24, 20, 6, 0, 0, 3, 0, 0, 0, 0, 0, 7);
    }

    /** "-9 for another what": just beside 0 .. 5 and 11 .. 16, and far from them; it is no REFUSAL. */
    private static void allOthers() {
        for (int what = -30; what <= 60; what++) {
            PuzzleParts x = new PuzzleParts();
            boolean told = what >= 0 && what <= 5 || what >= 11 && what <= 16;
            DUE.is("count(" + what + ")", x.count(what), told ? 0 : -9);
            all(x, "after count(" + what + ")", 0, 0, 0, 0, 0, 0, 0, 0, 0, 0, 0, 0);
        }
    }
}
