import java.util.Random;

/** Runs of calls drawn with fixed seeds, each answer compared with the naive model's. */
public final class OracleTest {
    private static final Due DUE = new Due("OracleTest");
    private static final int RUNS = 800;
    private static final int CALLS = 480;

    private final Random random;
    private final PuzzleParts x = new PuzzleParts();
    private final Naive naive = new Naive();
    private final int seed;
    private int call;

    private OracleTest(int seed) {
        this.seed = seed;
        this.random = new Random(seed);
    }

    public static void main(String[] args) {
        for (int seed = 0; seed < RUNS; seed++) {
            new OracleTest(seed).run();
        }
        DUE.end();
    }

    private void run() {
        int kind = seed % 5;
        int busy = random.nextInt(5);
        while (call < CALLS) {
            int what = random.nextInt(100);
            if (call < 60 && what < 70 || what < 8) {
                feedAndRead(kind);
            } else if (what < 25 || what < 50 && busy == 0) {
                askParts();
            } else if (what < 40 || what < 70 && busy == 1) {
                makeParts();
            } else if (what < 60 || what < 80 && busy == 2) {
                find();
            } else if (what < 80 || what < 88 && busy == 3) {
                askNets();
            } else if (what < 95) {
                askFloor();
            } else {
                both("count", random.nextInt(20) - 1);
            }
        }
        for (int what = 0; what <= 17; what++) {
            both("count", what);
        }
    }

    private void both(String name, long... a) {
        call++;
        StringBuilder told = new StringBuilder("seed " + seed + ", call " + call + ": " + name);
        for (long argument : a) {
            told.append(' ').append(argument);
        }
        DUE.is(told.toString(), answer(name, a), naive.call(name, a));
    }

    private long answer(String name, long[] a) {
        int p = a.length > 0 ? (int) a[0] : 0;
        int q = a.length > 1 ? (int) a[1] : 0;
        int r = a.length > 2 ? (int) a[2] : 0;
        switch (name) {
            case "feed": return x.feed(p, a[1]);
            case "part": return x.part();
            case "partOf": return x.partOf(p, q);
            case "cell": return x.cell(p, q);
            case "lets": return x.lets(p);
            case "ways": return x.ways(p, q);
            case "covered": return x.covered(p, q, r);
            case "barred": return x.barred(p);
            case "formula": return x.formula();
            case "means": return x.means(p, q);
            case "does": return x.does(p, q);
            case "misses": return x.misses(p, q);
            case "turn": return x.turn(p);
            case "mirror": return x.mirror(p);
            case "less": return x.less(p, q);
            case "rename": return x.rename(p, q);
            case "alike": return x.alike(p, q);
            case "needless": return x.needless(p);
            case "put": return x.put(p);
            case "find": return x.find(p, q, r);
            case "net": return x.net();
            case "piece": return x.piece(p, q);
            case "link": return x.link(p, q, r);
            case "free": return x.free(p, q);
            case "netLets": return x.netLets(p, q);
            case "howMany": return x.howMany(p, q);
            case "netDoes": return x.netDoes(p, q);
            case "lay": return x.lay(p, q, r);
            case "overlap": return x.overlap();
            case "meets": return x.meets(p, q);
            case "leak": return x.leak();
            case "floorNet": return x.floorNet();
            case "clear": return x.clear();
            default: return x.count(p);
        }
    }

    // ---- what is drawn ----

    private int part() {
        return random.nextInt(30) == 0 ? random.nextInt(40) - 5 : random.nextInt(Math.max(1, x.count(0)));
    }

    private int formula() {
        return random.nextInt(30) == 0 ? random.nextInt(30) - 5 : random.nextInt(Math.max(1, x.count(1)));
    }

    private int net() {
        return random.nextInt(30) == 0 ? random.nextInt(12) - 3 : random.nextInt(Math.max(1, x.count(2)));
    }

    private int xy() {
        return random.nextInt(10) == 0 ? random.nextInt(130) - 15 : 10 * random.nextInt(5) + random.nextInt(4);
    }

    /** Mostly a CELL that is there. */
    private int xyOf(int part) {
        boolean any = naive.wideAt(part) == 0 || random.nextInt(10) == 0;
        return any ? xy() : 10 * random.nextInt(naive.wideAt(part)) + random.nextInt(naive.highAt(part));
    }

    /** Few FACES and small BOARDS in one kind of run, many in another. */
    private String board(int kind) {
        int wide = 1 + random.nextInt(kind == 0 ? 3 : 5);
        int high = 1 + random.nextInt(kind == 1 ? 2 : 4);
        char[][] cells = new char[high][wide];
        for (char[] line : cells) {
            for (int i = 0; i < wide; i++) {
                line[i] = random.nextInt(kind == 2 ? 10 : 5) == 0 ? '#' : '.';
            }
        }
        int faces = random.nextInt(kind == 3 ? 6 : 4);
        for (int face = 0; face < faces && face < wide * high; face++) {
            int at = random.nextInt(wide * high);
            while (Character.isDigit(cells[at / wide][at % wide])) {
                at = (at + 1) % (wide * high);
            }
            cells[at / wide][at % wide] = (char) ('0' + face);
        }
        StringBuilder text = new StringBuilder();
        for (int y = 0; y < high; y++) {
            text.append(y == 0 ? "" : "/").append(cells[y]);
        }
        return text.toString();
    }

    private String formula(int depth) {
        int what = random.nextInt(depth > 4 ? 3 : 9);
        switch (what) {
            case 0:
            case 1:
            case 2:
                return "" + "abcde01".charAt(random.nextInt(7));
            case 3:
                return "!" + formula(depth + 1);
            case 4:
            case 5:
                return "(" + formula(depth + 1) + "&" + formula(depth + 1) + ")";
            case 6:
                return "(" + formula(depth + 1) + "|" + formula(depth + 1) + ")";
            case 7:
                return formula(depth + 1) + "|" + formula(depth + 1);
            default:
                return formula(depth + 1) + "&" + formula(depth + 1);
        }
    }

    private String spoilt(String text, String signs) {
        if (text.length() > 40) {
            return text.substring(0, random.nextInt(41));
        }
        if (random.nextInt(4) != 0) {
            return text;
        }
        int at = random.nextInt(text.length() + 1);
        String sign = "" + signs.charAt(random.nextInt(signs.length()));
        int rest = Math.min(text.length(), at + random.nextInt(2));
        String made = text.substring(0, at) + (random.nextInt(5) == 0 ? "" : sign) + text.substring(rest);
        return made.length() > 40 ? made.substring(0, 40) : made;
    }

    private void feedText(String text) {
        for (int from = 0; from < text.length(); ) {
            int n = Math.min(text.length() - from, 1 + random.nextInt(8));
            long noise = n == 8 ? 0 : (long) random.nextInt(256) << (8 * n);
            both("feed", n, Due.bytes(text.substring(from, from + n)) | noise);
            from += n;
        }
    }

    // ---- groups of calls ----

    private void feedAndRead(int kind) {
        if (random.nextInt(20) == 0) {
            both("feed", random.nextInt(12) - 2, random.nextLong());
        }
        if (random.nextBoolean()) {
            feedText(spoilt(board(kind), "#./012345x" + (char) 200));
            both("part");
        } else {
            feedText(spoilt(formula(random.nextInt(4)), "!&|()abcdef012"));
            both("formula");
        }
    }

    private void askParts() {
        int part = part();
        int state = random.nextInt(10) == 0 ? random.nextInt(50) - 5 : random.nextInt(1 << naive.facesAt(part));
        both("partOf", part, random.nextInt(6) - 1);
        both("cell", part, xyOf(part));
        both("lets", part);
        both("ways", part, state);
        both("covered", part, state, xyOf(part));
        both("barred", part);
        both("means", formula(), random.nextInt(9) - 1);
        both("does", part, formula());
        both("misses", part, formula());
        both("needless", part);
        both("alike", part, part());
    }

    private void makeParts() {
        switch (random.nextInt(6)) {
            case 0:
                both("turn", part());
                break;
            case 1:
                both("mirror", part());
                break;
            case 2: {
                int part = part();
                both("less", part, xyOf(part));
                break;
            }
            case 3: {
                int[] digits = {0, 1, 10, 210, 120, 12, 21, 102, 201, 2103, 3210, 1023, 43210, 1234, 40312, -1, 11, 13};
                both("rename", part(), digits[random.nextInt(digits.length)]);
                break;
            }
            case 4:
                both("put", xy());
                break;
            default:
                both("alike", part(), part());
        }
    }

    private void find() {
        int wide = 1 + random.nextInt(4);
        int high = 1 + random.nextInt(Math.min(4, 9 / wide));
        int step = 1 + random.nextInt(3);
        int at = random.nextInt(wide * high);
        for (int i = x.count(5) + random.nextInt(3); i < 3; i++) {
            both("put", random.nextInt(60) == 0 ? xy() : 10 * (at % wide) + at / wide);
            at = (at + step) % (wide * high);
        }
        if (random.nextInt(20) == 0) {
            both("find", random.nextInt(8) - 1, random.nextInt(7) - 1, formula());
        }
        both("find", wide, high, formula());
    }

    /** Mostly one that is there. */
    private int face(int net) {
        int faces = naive.facesOfNet(net).size();
        boolean any = faces == 0 || random.nextInt(20) == 0;
        return any ? random.nextInt(100) - 10 : naive.facesOfNet(net).get(random.nextInt(faces));
    }

    private void askNets() {
        if (x.count(2) == 0 || random.nextInt(8) == 0) {
            both("net");
        }
        int net = net();
        for (int i = random.nextInt(4); i > 0; i--) {
            both("piece", net, part());
        }
        for (int i = random.nextInt(8); i > 0; i--) {
            both("link", net, face(net), face(net));
        }
        both("free", net, -1);
        both("free", net, random.nextInt(16) - 3);
        both("netLets", net, random.nextInt(8) == 0 ? random.nextInt(1100) - 10 : random.nextInt(8));
        both("howMany", net, random.nextInt(4));
        both("howMany", net, random.nextInt(1 << Math.min(10, Math.max(0, naive.freeOfNet(net)))));
        if (random.nextInt(4) == 0) {
            both("netDoes", net, formula());
        }
    }

    private void askFloor() {
        if (random.nextInt(8) == 0) {
            both("clear");
        }
        int spread = 1 + random.nextInt(12);
        for (int i = random.nextInt(3); i >= 0; i--) {
            int part = part();
            int room = random.nextInt(10) == 0 ? 12 : Math.min(spread, 12 - naive.wideAt(part));
            int below = random.nextInt(10) == 0 ? 12 : Math.min(spread, 12 - naive.highAt(part));
            both("lay", part, random.nextInt(room + 1), random.nextInt(below + 1));
        }
        if (random.nextInt(20) == 0) {
            both("lay", part(), random.nextInt(20) - 3, random.nextInt(20) - 3);
        }
        both("overlap");
        both("leak");
        for (int i = 0; i < 4; i++) {
            both("meets", random.nextInt(1 + x.count(3)), random.nextInt(4) - (i == 0 ? 1 : 0));
        }
        both("floorNet");
    }
}
