/** Promises 10 to 13: THE TAPE becomes a FORMULA, what it MEANS, which PARTS do it. */
public final class FormulaTest {
    private static final Due DUE = new Due("FormulaTest");

    public static void main(String[] args) {
        meanings();
        letters();
        faults();
        room();
        refusals();
        doing();
        DUE.end();
    }

    private static void meanings() {
        means("0", 2, 0);
        means("1", 2, 15);
        means("1", 0, 1);
        means("1", 5, 4294967295L);
        means("a", 0, 0);
        means("!a", 0, 1);
        means("a", 1, 2);
        means("b", 1, 0);
        means("!b", 1, 3);
        means("a&b", 2, 8);
        means("a|b", 2, 14);
        means("a|b", 1, 2);
        means("!a&b", 2, 4);
        means("!(a&b)", 2, 7);
        means("a|b&c", 3, 0xEA);
        means("(a|b)&c", 3, 0xE0);
        means("b&c|a", 3, 0xEA);
        means("a&b|c&d", 4, 0xF888);
        means("a&b&c&d&e", 5, 1L << 31);
        means("a|b|c|d|e", 5, 4294967294L);
        means("!!a", 1, 2);
        means("!a|a", 1, 3);
        means("!1|0&1", 1, 0);
        means("!!!!!a", 1, 1);
        means("(((((a)))))", 1, 2);
        means("!(!(!a))", 1, 1);
        means("!(!(!a))&!(!(!b))&((((e))))", 5, 0x11110000L);
        means("a&!b|!a&b", 2, 6);
        means("a|b|c|d|e|a|b|c|d|e|a|b|c|d|e|a|b|c|!!e", 5, 4294967294L);
    }

    private static void means(String text, int faces, long want) {
        PuzzleParts x = new PuzzleParts();
        DUE.is("formula() of " + text, Due.formula(x, text), 0);
        DUE.is("count(4) after " + text, x.count(4), 0);
        DUE.is("count(1) after " + text, x.count(1), 1);
        DUE.is("means(" + text + ", " + faces + ")", x.means(0, faces), want);
    }

    private static void letters() {
        String[] texts = {"a", "b", "c", "d", "e"};
        PuzzleParts x = new PuzzleParts();
        for (int letter = 0; letter < 5; letter++) {
            Due.formula(x, texts[letter]);
            for (int faces = 0; faces <= 5; faces++) {
                long want = 0;
                for (int state = 0; state < 1 << faces; state++) {
                    want |= (long) (state >> letter & 1) << state;
                }
                DUE.is("means(" + texts[letter] + ", " + faces + ")", x.means(letter, faces), want);
            }
        }
    }

    private static void faults() {
        fault("", 0);
        fault("f", 0);
        fault("A", 0);
        fault("2", 0);
        fault("&a", 0);
        fault("|", 0);
        fault(")", 0);
        fault("a&", 2);
        fault("a|", 2);
        fault("a||b", 2);
        fault("a&|b", 2);
        fault("ab", 1);
        fault("a!b", 1);
        fault("a(b)", 1);
        fault("a b", 1);
        fault("a)", 1);
        fault("(a)b", 3);
        fault("(a))", 3);
        fault("(a", 2);
        fault("(", 1);
        fault("()", 1);
        fault("(a|b&", 5);
        fault("!", 1);
        fault("!&a", 1);
        fault("!)", 1);
        fault("(a&(b|c)", 8);
        fault("!!!!!!a", 5);
        fault("((((((a))))))", 5);
        fault("!(!(!(a)))", 5);
        fault("(!(!(!a)))", 5);
        fault("a&!!!!!!", 7);
        fault("(((((a)))))((", 11);
        fault("!!!!!", 5);
        fault("(((((", 5);
        fault("(!a)&((((!(a)))))", 10);
        fault("(!a)&(((((!a)))))", 10);
        fault("a&a&a&a&a&a&a&a&a&a&a&a&a&a&a&a&a&a&a&a&", 40);
        fault("0x", 1);
        fault("a" + (char) 230, 1);
        fault("./..", 0);
    }

    private static void fault(String text, int place) {
        PuzzleParts x = new PuzzleParts();
        DUE.is("formula() of " + text, Due.formula(x, text), -20 - place);
        DUE.is("count(4) after " + text, x.count(4), 0);
        DUE.is("count(1) after " + text, x.count(1), 0);
        for (int what = 11; what <= 16; what++) {
            DUE.is("count(" + what + ") after " + text, x.count(what), 0);
        }
        DUE.is("formula() after " + text, Due.formula(x, "a"), 0);
    }

    private static void room() {
        PuzzleParts x = new PuzzleParts();
        for (int i = 0; i < 20; i++) {
            DUE.is("formula()", Due.formula(x, i % 2 == 0 ? "a" : "!a"), i);
        }
        Due.feed(x, "1");
        DUE.is("formula() of 20", x.formula(), -6);
        DUE.is("count(4): it stays", x.count(4), 1);
        Due.feed(x, "1");
        DUE.is("formula() of 20, with a FAULT", x.formula(), -6);
        DUE.is("count(4): it stays", x.count(4), 2);
        DUE.is("count(1)", x.count(1), 20);
        DUE.is("count(16)", x.count(16), 2);
        DUE.is("means(19, 1)", x.means(19, 1), 1);
        DUE.is("means(18, 1)", x.means(18, 1), 2);
    }

    private static void refusals() {
        PuzzleParts x = new PuzzleParts();
        Due.formula(x, "a");
        Due.part(x, "0");
        DUE.is("means(1, 0)", x.means(1, 0), 4000000000000000001L);
        DUE.is("means(-1, 9)", x.means(-1, 9), 4000000000000000001L);
        DUE.is("means(1, -1)", x.means(1, -1), 4000000000000000001L);
        DUE.is("means(0, -1)", x.means(0, -1), 4000000000000000004L);
        DUE.is("means(0, least)", x.means(0, Integer.MIN_VALUE), 4000000000000000004L);
        DUE.is("means(0, 6)", x.means(0, 6), 4000000000000000006L);
        DUE.is("means(0, greatest)", x.means(0, Integer.MAX_VALUE), 4000000000000000006L);
        DUE.is("does(1, 0)", x.does(1, 0), -1);
        DUE.is("does(0, 1)", x.does(0, 1), -1);
        DUE.is("does(-1, -1)", x.does(-1, -1), -1);
        DUE.is("misses(1, 0)", x.misses(1, 0), -1);
        DUE.is("misses(0, 1)", x.misses(0, 1), -1);
        DUE.is("misses(0, -1)", x.misses(0, -1), -1);
        DUE.is("count(11)", x.count(11), 9);
        DUE.is("count(14)", x.count(14), 2);
        DUE.is("count(16)", x.count(16), 2);
    }

    private static void doing() {
        PuzzleParts x = new PuzzleParts();
        Due.part(x, "0.1");
        Due.part(x, "01/..");
        Due.part(x, "..");
        Due.part(x, ".");
        Due.part(x, "01234");
        Due.formula(x, "a&!b|!a&b");
        Due.formula(x, "!(a|b)|a&b");
        Due.formula(x, "1");
        Due.formula(x, "0");
        Due.formula(x, "a&b&c&d&e");
        Due.formula(x, "!a&!b");
        int[][] missed = {{-9, 0, 0, 1, 1, 0}, {0, -9, 1, 0, 0, 3}, {0, -9, -9, 0, 0, -9}, {-9, 0, 0, -9, -9, 0}};
        for (int part = 0; part < 4; part++) {
            for (int formula = 0; formula < 6; formula++) {
                int want = missed[part][formula];
                DUE.is("misses(" + part + ", " + formula + ")", x.misses(part, formula), want);
                DUE.is("does(" + part + ", " + formula + ")", x.does(part, formula), want == -9 ? 1 : 0);
            }
        }
        DUE.is("misses(01234, a&b&c&d&e)", x.misses(4, 4), 1);
        Due.formula(x, "a&b&c&d&e|e&!(a|b|c|d)|a&!(b|c|d|e)");
        DUE.is("misses(01234, without the middle)", x.misses(4, 6), 4);
        DUE.is("does(01234, without the middle)", x.does(4, 6), 0);
    }
}
