/** Promises 3, 4 and 5: THE TAPE becomes a PART, and what a PART is. */
public final class BoardTest {
    private static final Due DUE = new Due("BoardTest");

    public static void main(String[] args) {
        stand();
        faults();
        room();
        told();
        DUE.end();
    }

    private static void stand() {
        String[] texts = {".", "#", "0", ".....", "./././.", "...../...../...../.....", "0.1/.#./2.3/..4",
            "4321/0...", "##/##", "01234", "....0", "3/2/1/0"};
        PuzzleParts x = new PuzzleParts();
        for (int i = 0; i < texts.length; i++) {
            DUE.is("part() of " + texts[i], Due.part(x, texts[i]), i);
            DUE.shows(x, i, texts[i]);
            DUE.is("count(4)", x.count(4), 0);
            DUE.is("count(0)", x.count(0), i + 1);
        }
    }

    private static void faults() {
        fault("", 0);
        fault("/", 0);
        fault("/..", 0);
        fault("x", 0);
        fault("5", 0);
        fault(".5", 1);
        fault(".9", 1);
        fault(" .", 0);
        fault(".\n", 1);
        fault("./", 2);
        fault(".//.", 2);
        fault("../.", 4);
        fault("../", 3);
        fault("../0/..", 4);
        fault("./..", 3);
        fault("../...", 5);
        fault("......", 5);
        fault(".....x", 5);
        fault("....x.", 4);
        fault("...../......", 11);
        fault("./././.x", 7);
        fault("././././.", 7);
        fault("././././", 7);
        fault("./././..", 7);
        fault("./././", 6);
        fault("0.0", 2);
        fault("0./.0", 4);
        fault("1", 1);
        fault("02", 2);
        fault("4321", 4);
        fault("1/.", 3);
        fault("0124", 4);
        fault("1x", 1);
        fault("1.1", 2);
        fault("1/", 2);
        fault("0.../.", 6);
        fault("a|b", 0);
        fault("...../...../...../...../", 23);
        fault("........................................", 5);
        fault("./././.\0", 7);
    }

    private static void fault(String text, int place) {
        PuzzleParts x = new PuzzleParts();
        Due.part(x, "..");
        DUE.is("part() of " + text, Due.part(x, text), -20 - place);
        DUE.is("count(4) after " + text, x.count(4), 0);
        DUE.is("count(0) after " + text, x.count(0), 1);
        for (int what = 11; what <= 16; what++) {
            DUE.is("count(" + what + ") after " + text, x.count(what), 0);
        }
        DUE.is("part() after " + text, Due.part(x, ".0"), 1);
    }

    private static void room() {
        PuzzleParts x = new PuzzleParts();
        for (int i = 0; i < 24; i++) {
            DUE.is("part()", Due.part(x, i % 2 == 0 ? ".0" : "#"), i);
        }
        Due.feed(x, "..");
        DUE.is("part() of 24", x.part(), -6);
        DUE.is("count(4): it stays", x.count(4), 2);
        DUE.is("count(16)", x.count(16), 1);
        Due.feed(x, "x");
        DUE.is("part() of 24, with a FAULT", x.part(), -6);
        DUE.is("count(4): it stays", x.count(4), 3);
        DUE.is("count(0)", x.count(0), 24);
        DUE.is("partOf(23, 0)", x.partOf(23, 0), 1);
        DUE.is("partOf(24, 0)", x.partOf(24, 0), -1);
    }

    private static void told() {
        PuzzleParts x = new PuzzleParts();
        Due.part(x, "..#0./#1..#/.#..2");
        DUE.is("WIDE", x.partOf(0, 0), 5);
        DUE.is("HIGH", x.partOf(0, 1), 3);
        DUE.is("FACES", x.partOf(0, 2), 3);
        DUE.is("OPEN CELLS and FACES", x.partOf(0, 3), 11);
        DUE.is("partOf(0, 4)", x.partOf(0, 4), -2);
        DUE.is("partOf(0, -1)", x.partOf(0, -1), -2);
        DUE.is("partOf(1, 4)", x.partOf(1, 4), -1);
        DUE.is("partOf(-1, 0)", x.partOf(-1, 0), -1);
        DUE.is("count(11)", x.count(11), 2);
        DUE.is("count(12)", x.count(12), 2);
        DUE.is("cell(0, 0)", x.cell(0, 0), 1);
        DUE.is("cell(0, 20)", x.cell(0, 20), 0);
        DUE.is("cell(0, 30)", x.cell(0, 30), 10);
        DUE.is("cell(0, 11)", x.cell(0, 11), 11);
        DUE.is("cell(0, 42)", x.cell(0, 42), 12);
        DUE.is("cell(0, 50)", x.cell(0, 50), -1);
        DUE.is("cell(0, 3)", x.cell(0, 3), -1);
        DUE.is("cell(0, 43)", x.cell(0, 43), -1);
        DUE.is("cell(0, -1)", x.cell(0, -1), -1);
        DUE.is("cell(0, -10)", x.cell(0, -10), -1);
        DUE.is("cell(0, least)", x.cell(0, Integer.MIN_VALUE), -1);
        DUE.is("cell(0, greatest)", x.cell(0, Integer.MAX_VALUE), -1);
        DUE.is("cell(1, 0)", x.cell(1, 0), -1);
        DUE.is("cell(greatest, 0)", x.cell(Integer.MAX_VALUE, 0), -1);
        DUE.is("count(11)", x.count(11), 11);
        DUE.is("part() of ##", Due.part(x, "##"), 1);
        DUE.is("partOf(1, 3)", x.partOf(1, 3), 0);
        DUE.is("partOf(1, 2)", x.partOf(1, 2), 0);
    }
}
