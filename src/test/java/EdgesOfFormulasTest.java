/** Boundary cases of texts of what is WANTED (II.; promises 10 to 13), a sentence each. */
public final class EdgesOfFormulasTest {
    private static final Due DUE = new Due("EdgesOfFormulasTest");
    private static final int LEAST = Integer.MIN_VALUE;
    private static final int GREATEST = Integer.MAX_VALUE;
    private static final int STANDS = -1;
    private static final long BELOW = 4000000000000000004L;
    private static final long ROOM = 4000000000000000006L;
    private static final long NOBODY = 4000000000000000001L;

    public static void main(String[] args) {
        firstByte();
        byteAfterOperand();
        byteAfterOperator();
        allShortTexts();
        depths();
        depthOfSiblings();
        longestText();
        bindings();
        faultsCountNothing();
        formulaNumbers();
        meansOfFaces();
        lettersOfNoFace();
        meansRefused();
        justWhatItMeans();
        leastThatDiffers();
        doesRefused();
        DUE.end();
    }

    private static void check(String text, int fault) {
        PuzzleParts x = new PuzzleParts();
        DUE.is("formula() of " + text, Due.formula(x, text), fault == STANDS ? 0 : -20 - fault);
        DUE.is("count(1) after " + text, x.count(1), fault == STANDS ? 1 : 0);
    }

    private static boolean isOperand(int sign) {
        return sign >= 'a' && sign <= 'e' || sign == '0' || sign == '1';
    }

    /** "UNIT: "!" UNIT, "(" OR ")", a letter a .. e, "0", "1"": no other byte; "the end, if something lacks". */
    private static void firstByte() {
        check("", 0);
        for (int sign = 0; sign < 256; sign++) {
            check("" + (char) sign, isOperand(sign) ? STANDS : sign == '!' || sign == '(' ? 1 : 0);
        }
    }

    /** "OR: AND { "|" AND }; AND: UNIT { "&" UNIT }": behind a UNIT; a bracket ends only what is open. */
    private static void byteAfterOperand() {
        for (int sign = 0; sign < 256; sign++) {
            boolean joins = sign == '&' || sign == '|';
            check("a" + (char) sign, joins ? 2 : 1);
            check("a" + (char) sign + "b", joins ? STANDS : 1);
            check("(e" + (char) sign, joins || sign == ')' ? (sign == ')' ? STANDS : 3) : 2);
            check("(0)" + (char) sign + "1", joins ? STANDS : 3);
            check("!1" + (char) sign + "!c", joins ? STANDS : 2);
        }
    }

    /** A UNIT lacks: an operand ends it, "!" and "(" go on, any other byte can not stand. */
    private static void byteAfterOperator() {
        String[] starts = {"!", "(", "a&", "a|", "!(", "(!", "(a)|", "!!"};
        for (String start : starts) {
            int at = start.length();
            boolean open = start.endsWith("(") || start.equals("(!");
            for (int sign = 0; sign < 256; sign++) {
                if (isOperand(sign)) {
                    check(start + (char) sign, open ? at + 1 : STANDS);
                } else {
                    check(start + (char) sign, sign == '!' || sign == '(' ? at + 1 : at);
                }
            }
        }
    }

    /** Every text of six signs at most, read by a list of what is open instead of by rules. */
    private static void allShortTexts() {
        String signs = "a!(&)";
        for (int length = 0; length <= 6; length++) {
            int texts = (int) Math.pow(signs.length(), length);
            for (int i = 0; i < texts; i++) {
                StringBuilder text = new StringBuilder();
                for (int rest = i, left = length; left > 0; rest /= signs.length(), left--) {
                    text.append(signs.charAt(rest % signs.length()));
                }
                check(text.toString(), faultOf(text.toString()));
            }
        }
    }

    private static int faultOf(String text) {
        StringBuilder open = new StringBuilder();
        boolean wantsUnit = true;
        for (int at = 0; at < text.length(); at++) {
            char sign = text.charAt(at);
            boolean opens = sign == '!' || sign == '(';
            boolean joins = sign == '&' || sign == '|';
            boolean closes = sign == ')';
            if (wantsUnit ? joins || closes || opens && open.length() == 5
                    : opens || isOperand(sign) || closes && open.indexOf("(") < 0) {
                return at;
            }
            if (opens) {
                open.append(sign);
            } else {
                if (closes) {
                    open.setLength(open.length() - 1);
                }
                while (!joins && open.length() > 0 && open.charAt(open.length() - 1) == '!') {
                    open.setLength(open.length() - 1);
                }
                wantsUnit = joins;
            }
        }
        return wantsUnit || open.length() > 0 ? text.length() : STANDS;
    }

    /** ""!" and "(" are 5 deep at most, together"; "of a sixth its own": all mixtures of four, five, six and seven. */
    private static void depths() {
        for (int deep = 4; deep <= 7; deep++) {
            for (int mixture = 0; mixture < 1 << deep; mixture++) {
                StringBuilder text = new StringBuilder();
                for (int i = 0; i < deep; i++) {
                    text.append((mixture >> i & 1) != 0 ? '!' : '(');
                }
                String opening = text.toString();
                text.append('e').append(")".repeat(deep - Integer.bitCount(mixture)));
                check(text.toString(), deep <= 5 ? STANDS : 5);
                check("a&" + text, deep <= 5 ? STANDS : 7);
                check(opening, Math.min(deep, 5));
                if (deep <= 5) {
                    PuzzleParts x = new PuzzleParts();
                    Due.formula(x, text.toString());
                    long means = Integer.bitCount(mixture) % 2 == 0 ? 0xFFFF0000L : 0xFFFFL;
                    DUE.is("means of " + text, x.means(0, 5), means);
                }
            }
        }
    }

    /** What is closed (or a "!" whose UNIT has ended) is not deep any more. */
    private static void depthOfSiblings() {
        check("!a&!a&!a&!a&!a&!a&!a", STANDS);
        check("(a)&(a)&(a)|(a)&(a)&(a)", STANDS);
        check("(((((a)))))|(((((b)))))", STANDS);
        check("!!!!!a|!!!!!b&!!!!!c", STANDS);
        check("!(!(!a&!b))", STANDS);
        check("((((!a&!b|!c))))", STANDS);
        check("((((!a&!!b))))", 8);
        check("((((!a&(!b)))))", 8);
        check("((((!a)&(b))))", STANDS);
        check("((((!a)&(!b))))", STANDS);
        check("((((!a)&(!(b)))))", 10);
        check("!(((((a)))))", 5);
        check("(((((a&!b)))))", 7);
        check("!!!!!(a)", 5);
        check("((((a)))&((((b)))))", STANDS);
        check("((((a)))&(((((b))))))", 13);
    }

    /** "(40 bytes at most)": one of 40 that stands, one that lacks at its end, one whose last byte can not stand. */
    private static void longestText() {
        String most = "!e" + "|e".repeat(19);
        DUE.is("length", most.length(), 40);
        check(most, STANDS);
        PuzzleParts x = new PuzzleParts();
        Due.formula(x, most);
        DUE.is("means of 40 bytes", x.means(0, 5), 4294967295L);
        DUE.is("count(4)", x.count(4), 0);
        check("a&".repeat(20), 40);
        check("a|".repeat(19) + "a!", 39);
        check("a|".repeat(19) + "!!", 40);
        check("a|".repeat(19) + "!a", STANDS);
        check("a|".repeat(18) + "(b)&", 40);
        check("a|".repeat(19) + "a)", 39);
        check("a|".repeat(17) + "!!!!!a", STANDS);
        check("a|".repeat(17) + "!!!!!!", 39);
        check("(" + "a|".repeat(19) + "b", 40);
        check("(" + "a|".repeat(18) + "b)&", 40);
        check("(" + "a|".repeat(18) + "!b)", STANDS);
    }

    private static void means(String text, int faces, long want) {
        PuzzleParts x = new PuzzleParts();
        Due.formula(x, text);
        DUE.is("means(" + text + ", " + faces + ")", x.means(0, faces), want);
    }

    /** "&" binds before "|", "!" before both. */
    private static void bindings() {
        means("a|b&c", 3, 0b11101010);
        means("a&b|c", 3, 0b11111000);
        means("(a|b)&c", 3, 0b11100000);
        means("!a|b", 2, 0b1101);
        means("!a&b", 2, 0b0100);
        means("!(a|b)", 2, 0b0001);
        means("!(a)|b", 2, 0b1101);
        means("0|a", 1, 0b10);
        means("1&a", 1, 0b10);
        means("!0", 0, 1);
        means("!1", 0, 0);
        means("!!1", 0, 1);
    }

    /** "THE TAPE becomes a FORMULA likewise": a FAULT takes THE TAPE, and nothing is counted. */
    private static void faultsCountNothing() {
        String[] texts = {"", "f", "a&", "!!!!!!a", "(a"};
        for (String text : texts) {
            PuzzleParts x = new PuzzleParts();
            Due.formula(x, "b");
            Due.formula(x, text);
            for (int what = 11; what <= 16; what++) {
                DUE.is("count(" + what + ") after " + text, x.count(what), 0);
            }
            DUE.is("count(1) after " + text, x.count(1), 1);
            DUE.is("count(4) after " + text, x.count(4), 0);
            DUE.is("feed(1) after " + text, x.feed(1, 'a'), 1);
            DUE.is("formula() after " + text, x.formula(), 1);
            DUE.is("count(4) after a FORMULA", x.count(4), 0);
            DUE.is("formula() of nothing", x.formula(), -20);
        }
    }

    /** "FORMULAS have numbers from 0 on (20 at most)"; -6 20: THE TAPE stays. */
    private static void formulaNumbers() {
        PuzzleParts x = new PuzzleParts();
        for (int formula = 0; formula < 20; formula++) {
            DUE.is("means(" + formula + ", 1) ahead", x.means(formula, 1), NOBODY);
            DUE.is("formula() of " + formula, Due.formula(x, formula % 2 == 0 ? "a" : "!a"), formula);
            DUE.is("means(" + formula + ", 1)", x.means(formula, 1), formula % 2 == 0 ? 2 : 1);
        }
        x.feed(1, '0');
        DUE.is("formula() of 20", x.formula(), -6);
        DUE.is("formula() of 20 again", x.formula(), -6);
        DUE.is("count(1)", x.count(1), 20);
        DUE.is("count(4): it stays", x.count(4), 1);
        DUE.is("means(20, 1)", x.means(20, 1), NOBODY);
        DUE.is("part() reads what stayed", x.part(), 0);
        DUE.shows(x, 0, "0");
        DUE.is("formula() of 20, THE TAPE empty", x.formula(), -6);
        DUE.is("count(16)", x.count(16), 3);
    }

    /** "MEANS for 0 .. 5 FACES"; "-4; -6". */
    private static void meansOfFaces() {
        long[] all = {1, 3, 15, 255, 65535, 4294967295L};
        PuzzleParts x = new PuzzleParts();
        Due.formula(x, "1");
        Due.formula(x, "0");
        for (int faces = -3; faces <= 9; faces++) {
            long refusal = faces < 0 ? BELOW : ROOM;
            boolean within = faces >= 0 && faces <= 5;
            DUE.is("means(1, " + faces + ")", x.means(0, faces), within ? all[faces] : refusal);
            DUE.is("means(0, " + faces + ")", x.means(1, faces), within ? 0 : refusal);
        }
        DUE.is("means(1, least)", x.means(0, LEAST), BELOW);
        DUE.is("means(1, greatest)", x.means(0, GREATEST), ROOM);
        DUE.is("count(14)", x.count(14), 7);
        DUE.is("count(16)", x.count(16), 9);
    }

    /** "(letters of no FACE false)"; "a letter a .. e (FACE 0 .. 4; true in a STATE with 1)". */
    private static void lettersOfNoFace() {
        for (int letter = 0; letter < 5; letter++) {
            PuzzleParts x = new PuzzleParts();
            Due.formula(x, "" + (char) ('a' + letter));
            Due.formula(x, "!" + (char) ('a' + letter));
            for (int faces = 0; faces <= 5; faces++) {
                long isTrue = 0;
                long isFalse = 0;
                for (int state = 0; state < 1 << faces; state++) {
                    isTrue |= (long) (state >> letter & 1) << state;
                    isFalse |= (long) (1 - (state >> letter & 1)) << state;
                }
                DUE.is("means of letter " + letter + " for " + faces, x.means(0, faces), isTrue);
                DUE.is("means of no letter " + letter + " for " + faces, x.means(1, faces), isFalse);
            }
        }
    }

    /** "-1; -4; -6": in this order. */
    private static void meansRefused() {
        PuzzleParts x = new PuzzleParts();
        DUE.is("means(0, 0) without FORMULAS", x.means(0, 0), NOBODY);
        Due.formula(x, "a");
        int[] none = {-1, 1, 20, LEAST, GREATEST};
        for (int formula : none) {
            DUE.is("means(" + formula + ", 0)", x.means(formula, 0), NOBODY);
            DUE.is("means(" + formula + ", -1)", x.means(formula, -1), NOBODY);
            DUE.is("means(" + formula + ", 6)", x.means(formula, 6), NOBODY);
        }
        DUE.is("count(11)", x.count(11), 1 + 3 * none.length);
        DUE.is("count(14)", x.count(14), 0);
        DUE.is("count(16)", x.count(16), 0);
    }

    private static void misses(String part, String formula, int want) {
        PuzzleParts x = new PuzzleParts();
        Due.part(x, part);
        Due.formula(x, formula);
        DUE.is("misses(" + part + ", " + formula + ")", x.misses(0, 0), want);
        DUE.is("does(" + part + ", " + formula + ")", x.does(0, 0), want == -9 ? 1 : 0);
    }

    /** "if it LETS just what that MEANS for its FACES": one STATE more or less is too much. */
    private static void justWhatItMeans() {
        misses("0.1", "a&!b|!a&b", -9);
        misses("0.1", "a&!b", 2);
        misses("0.1", "!a&b", 1);
        misses("0.1", "a|b", 3);
        misses("0.1", "a&!b|!a&b|!a&!b", 0);
        misses("0.1", "a&!b&!c|!a&b&!d&!e", -9);
        misses("0.1", "a&!b|!a&b|c&d&e", -9);
        misses("..", "1", -9);
        misses("..", "0", 0);
        misses("..", "a", 0);
        misses("..", "!e", -9);
        misses(".", "0", -9);
        misses(".", "1", 0);
        misses("#", "1", -9);
    }

    /** "MISSES: the least STATE in which they differ"; "-9 it DOES it": the first STATE, the last one, none. */
    private static void leastThatDiffers() {
        String all = "a&b&c&d&e";
        misses("0#1/#2#/3#4", all, -9);
        misses("0#1/#2#/3#4", all + "|!a&!b&!c&!d&!e", 0);
        misses("0#1/#2#/3#4", all + "|b&c&d&e", 30);
        misses("0#1/#2#/3#4", all + "|e&!a&!b&!c&!d", 16);
        misses("0#1/#2#/3#4", "0", 31);
        misses("0#1/#2#/3#4", all + "|a&b", 3);
        misses("0", "a", -9);
        misses("0", "!a", 0);
        misses("0", "0", 1);
        misses("0", "1", 0);
        misses("0.", "!a", -9);
        misses("0.", "1", 1);
    }

    /** "-1 either". */
    private static void doesRefused() {
        PuzzleParts x = new PuzzleParts();
        Due.part(x, "0");
        DUE.is("does(0, 0) without FORMULAS", x.does(0, 0), -1);
        DUE.is("misses(0, 0) without FORMULAS", x.misses(0, 0), -1);
        Due.formula(x, "a");
        DUE.is("does(0, 0)", x.does(0, 0), 1);
        int[] none = {-1, 1, 24, LEAST, GREATEST};
        for (int number : none) {
            DUE.is("does(" + number + ", 0)", x.does(number, 0), -1);
            DUE.is("does(0, " + number + ")", x.does(0, number), -1);
            DUE.is("does(" + number + ", " + number + ")", x.does(number, number), -1);
            DUE.is("misses(" + number + ", 0)", x.misses(number, 0), -1);
            DUE.is("misses(0, " + number + ")", x.misses(0, number), -1);
            DUE.is("misses(" + number + ", " + number + ")", x.misses(number, number), -1);
        }
        DUE.is("count(11)", x.count(11), 2 + 6 * none.length);
        PuzzleParts y = new PuzzleParts();
        Due.formula(y, "a");
        DUE.is("does(0, 0) without PARTS", y.does(0, 0), -1);
        DUE.is("misses(0, 0) without PARTS", y.misses(0, 0), -1);
    }
}
