/** What the tests share: comparing answers and feeding texts. */
final class Due {
    private final String test;
    private int calls;
    private int wrong;

    Due(String test) {
        this.test = test;
    }

    void is(String call, long got, long want) {
        calls++;
        if (got != want) {
            wrong++;
            System.out.println(test + ": " + call + " answered " + got + ", due is " + want);
        }
    }

    void same(String what, String got, String want) {
        calls++;
        if (!got.equals(want)) {
            wrong++;
            System.out.println(test + ": " + what + " is " + got + ", due is " + want);
        }
    }

    /** Closes a test: exit code 1 if one answer was wrong, or if there was none. */
    void end() {
        System.out.println(test + ": " + calls + " answers, " + wrong + " wrong");
        if (wrong != 0 || calls == 0) {
            System.exit(1);
        }
    }

    static long bytes(String text) {
        long packed = 0;
        for (int i = 0; i < text.length(); i++) {
            packed |= (long) (text.charAt(i) & 255) << (8 * i);
        }
        return packed;
    }

    static void feed(PuzzleParts x, String text) {
        for (int from = 0; from < text.length(); from += 8) {
            String piece = text.substring(from, Math.min(text.length(), from + 8));
            x.feed(piece.length(), bytes(piece));
        }
    }

    static int part(PuzzleParts x, String text) {
        feed(x, text);
        return x.part();
    }

    static int formula(PuzzleParts x, String text) {
        feed(x, text);
        return x.formula();
    }

    /** A PART as its text, cell by cell, as the object tells it. */
    static String shown(PuzzleParts x, int part) {
        StringBuilder text = new StringBuilder();
        for (int y = 0; y < x.partOf(part, 1); y++) {
            if (y > 0) {
                text.append('/');
            }
            for (int column = 0; column < x.partOf(part, 0); column++) {
                int code = x.cell(part, 10 * column + y);
                text.append(code == 0 ? "#" : code == 1 ? "." : Integer.toString(code - 10));
            }
        }
        return text.toString();
    }

    void shows(PuzzleParts x, int part, String want) {
        same("part " + part, shown(x, part), want);
    }
}
