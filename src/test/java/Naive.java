import java.util.ArrayList;
import java.util.HashMap;
import java.util.List;
import java.util.Map;
import java.util.TreeSet;

/** The document once more, by slow and plain means and without any code of PuzzleParts. */
final class Naive {
    private static final class Refusal extends RuntimeException {
        private static final long serialVersionUID = 1L;
        final int number;

        Refusal(int number) {
            super(null, null, false, false);
            this.number = number;
        }
    }

    private static final class Fault extends RuntimeException {
        private static final long serialVersionUID = 1L;
        final int place;

        Fault(int place) {
            super(null, null, false, false);
            this.place = place;
        }
    }

    private static final class Laid {
        String[] part;
        int x;
        int y;
    }

    private static final class Netted {
        final List<String[]> pieces = new ArrayList<>();
        final List<int[]> links = new ArrayList<>();
    }

    private String tape = "";
    private final List<String[]> parts = new ArrayList<>();
    private final List<String> formulas = new ArrayList<>();
    private final List<Netted> nets = new ArrayList<>();
    private final List<Laid> floor = new ArrayList<>();
    private final List<Integer> row = new ArrayList<>();
    private final int[] refused = new int[20];
    private static final Map<String, Integer> WAYS = new HashMap<>();

    /** One call by its name; arguments it does not take are passed over. */
    long call(String name, long... a) {
        try {
            return answer(name, a);
        } catch (Refusal refusal) {
            refused[-refusal.number]++;
            boolean isLong = name.equals("lets") || name.equals("barred") || name.equals("means");
            return isLong ? 4000000000000000000L - refusal.number : refusal.number;
        } catch (Fault fault) {
            tape = "";
            return -20 - fault.place;
        }
    }

    /** How many FACES a PART has (0, if there is no such), without a call. */
    int facesAt(int part) {
        return part < 0 || part >= parts.size() ? 0 : facesOf(parts.get(part));
    }

    /** The FACES of a NET (none, if there is no such), without a call. */
    List<Integer> facesOfNet(int net) {
        return net < 0 || net >= nets.size() ? new ArrayList<>() : facesOf(nets.get(net));
    }

    int freeOfNet(int net) {
        return net < 0 || net >= nets.size() ? 0 : freeOf(nets.get(net)).size();
    }

    int wideAt(int part) {
        return part < 0 || part >= parts.size() ? 0 : parts.get(part)[0].length();
    }

    int highAt(int part) {
        return part < 0 || part >= parts.size() ? 0 : parts.get(part).length;
    }

    private static void refuseIf(boolean fits, int number) {
        if (fits) {
            throw new Refusal(number);
        }
    }

    private long answer(String name, long[] a) {
        switch (name) {
            case "feed":
                return feed((int) a[0], a[1]);
            case "part":
                return part();
            case "partOf":
                return partOf((int) a[0], (int) a[1]);
            case "cell":
                return cell((int) a[0], (int) a[1]);
            case "lets":
                return letsOf(partAt((int) a[0]));
            case "ways":
                return ways(stateOf((int) a[0], (int) a[1]), (int) a[1]);
            case "covered":
                return covered((int) a[0], (int) a[1], (int) a[2]);
            case "barred":
                return barred(partAt((int) a[0]));
            case "formula":
                return formula();
            case "means":
                formulaAt((int) a[0]);
                refuseIf(a[1] < 0, -4);
                refuseIf(a[1] > 5, -6);
                return meaning(formulas.get((int) a[0]), (int) a[1]);
            case "does":
                return misses((int) a[0], (int) a[1]) == -9 ? 1 : 0;
            case "misses":
                return misses((int) a[0], (int) a[1]);
            default:
                return answerOfMade(name, a);
        }
    }

    private long answerOfMade(String name, long[] a) {
        switch (name) {
            case "turn": {
                String[] of = partAt((int) a[0]);
                refuseIf(parts.size() == 24, -6);
                refuseIf(of[0].length() == 5, -3);
                return keep(turned(of));
            }
            case "mirror": {
                String[] of = partAt((int) a[0]);
                refuseIf(parts.size() == 24, -6);
                return keep(mirrored(of));
            }
            case "less":
                return less((int) a[0], (int) a[1]);
            case "rename":
                return rename((int) a[0], (int) a[1]);
            case "alike":
                return alike(partAt((int) a[0]), partAt((int) a[1]));
            case "needless":
                return needless(partAt((int) a[0]));
            case "put":
                refuseIf(a[0] < 0, -4);
                refuseIf(a[0] > 99 || row.size() == 3, -6);
                row.add((int) a[0]);
                return row.size();
            case "find":
                return find((int) a[0], (int) a[1], (int) a[2]);
            case "net":
                refuseIf(nets.size() == 6, -6);
                nets.add(new Netted());
                return nets.size() - 1;
            default:
                return answerOfNets(name, a);
        }
    }

    private long answerOfNets(String name, long[] a) {
        switch (name) {
            case "piece": {
                Netted net = netAt((int) a[0]);
                String[] part = partAt((int) a[1]);
                refuseIf(net.pieces.size() == 8, -6);
                net.pieces.add(part);
                return net.pieces.size() - 1;
            }
            case "link":
                return link((int) a[0], (int) a[1], (int) a[2]);
            case "free": {
                List<Integer> free = freeOf(netAt((int) a[0]));
                refuseIf(a[1] < -1, -1);
                return a[1] == -1 ? free.size() : a[1] < free.size() ? free.get((int) a[1]) : -9;
            }
            case "netLets":
                return netSum((int) a[0], (int) a[1], true) > 0 ? 1 : 0;
            case "howMany":
                return netSum((int) a[0], (int) a[1], false);
            case "netDoes":
                return netDoes((int) a[0], (int) a[1]);
            default:
                return answerOfFloor(name, a);
        }
    }

    private long answerOfFloor(String name, long[] a) {
        switch (name) {
            case "lay":
                return lay((int) a[0], (int) a[1], (int) a[2]);
            case "overlap":
                return overlap();
            case "meets": {
                refuseIf(a[0] < 0 || a[0] >= floor.size(), -1);
                refuseIf(a[1] < 0 || a[1] >= facesOf(floor.get((int) a[0]).part), -1);
                TreeSet<Integer> met = met((int) a[0], (int) a[1]);
                return met.isEmpty() ? -9 : met.first();
            }
            case "leak":
                return leak();
            case "floorNet":
                return floorNet();
            case "clear": {
                int were = floor.size();
                floor.clear();
                return were;
            }
            case "count":
                return count((int) a[0]);
            default:
                throw new IllegalArgumentException(name);
        }
    }

    // ---- THE TAPE and BOARDS ----

    private long feed(int n, long bytes) {
        refuseIf(n < 1, -4);
        refuseIf(n > 8 || tape.length() + n > 40, -6);
        for (int i = 0; i < n; i++) {
            tape += (char) (bytes >> (8 * i) & 255);
        }
        return tape.length();
    }

    private String[] partAt(int part) {
        refuseIf(part < 0 || part >= parts.size(), -1);
        return parts.get(part);
    }

    private String[] stateOf(int part, int state) {
        String[] of = partAt(part);
        refuseIf(state < 0 || state >= 1 << facesOf(of), -1);
        return of;
    }

    private int keep(String[] part) {
        parts.add(part);
        return parts.size() - 1;
    }

    /** A text can go on from a place, if some text that begins so stands: tried by whether the beginning is one. */
    private int part() {
        refuseIf(parts.size() == 24, -6);
        String text = tape;
        for (int end = 1; end <= text.length(); end++) {
            if (!canBegin(text.substring(0, end))) {
                throw new Fault(end - 1);
            }
        }
        String[] lines = text.split("/", -1);
        boolean stands = true;
        for (String line : lines) {
            stands &= line.length() == lines[0].length() && !line.isEmpty();
        }
        for (char face = '1'; face <= '4'; face++) {
            stands &= text.indexOf(face) < 0 || text.indexOf(face - 1) >= 0;
        }
        if (!stands) {
            throw new Fault(text.length());
        }
        tape = "";
        return keep(lines);
    }

    private static boolean canBegin(String text) {
        String[] lines = text.split("/", -1);
        if (lines.length > 4) {
            return false;
        }
        for (int i = 0; i < lines.length; i++) {
            boolean last = i == lines.length - 1;
            if (lines[i].length() > lines[0].length() || lines[i].length() > 5
                    || !last && (lines[i].isEmpty() || lines[i].length() < lines[0].length())) {
                return false;
            }
        }
        return text.matches("[#./01234]*") && !text.matches("(?s).*([0-4]).*\\1.*");
    }

    private static int facesOf(String[] part) {
        int faces = 0;
        for (char sign : String.join("", part).toCharArray()) {
            faces += Character.isDigit(sign) ? 1 : 0;
        }
        return faces;
    }

    private int partOf(int part, int what) {
        String[] of = partAt(part);
        refuseIf(what < 0 || what > 3, -2);
        String all = String.join("", of);
        int[] answers = {of[0].length(), of.length, facesOf(of), all.replace("#", "").length()};
        return answers[what];
    }

    private char signAt(int part, int xy) {
        String[] of = partAt(part);
        refuseIf(xy < 0 || xy / 10 >= of[0].length() || xy % 10 >= of.length, -1);
        return of[xy % 10].charAt(xy / 10);
    }

    private int cell(int part, int xy) {
        char sign = signAt(part, xy);
        return sign == '#' ? 0 : sign == '.' ? 1 : 10 + sign - '0';
    }

    // ---- TILINGS ----

    /** The board with 'o' where a CELL is to be covered, '#' elsewhere. */
    private static char[][] toCover(String[] part, int state) {
        char[][] cells = new char[part.length][];
        for (int y = 0; y < part.length; y++) {
            cells[y] = part[y].toCharArray();
            for (int x = 0; x < cells[y].length; x++) {
                char sign = cells[y][x];
                boolean covered = sign == '.' || Character.isDigit(sign) && (state >> sign - '0' & 1) == 0;
                cells[y][x] = covered ? 'o' : '#';
            }
        }
        return cells;
    }

    /** All TILINGS in the order of the search: signs R, D, L, U for the CELLS. */
    private static void tile(char[][] cells, int from, List<String> found) {
        int wide = cells[0].length;
        int at = from;
        while (at < wide * cells.length && cells[at / wide][at % wide] != 'o') {
            at++;
        }
        if (at == wide * cells.length) {
            StringBuilder all = new StringBuilder();
            for (char[] line : cells) {
                all.append(line);
            }
            found.add(all.toString());
            return;
        }
        int x = at % wide;
        int y = at / wide;
        int[][] steps = {{1, 0, 'R', 'L'}, {0, 1, 'D', 'U'}};
        for (int[] step : steps) {
            int toX = x + step[0];
            int toY = y + step[1];
            if (toX < wide && toY < cells.length && cells[toY][toX] == 'o') {
                cells[y][x] = (char) step[2];
                cells[toY][toX] = (char) step[3];
                tile(cells, at + 1, found);
                cells[y][x] = 'o';
                cells[toY][toX] = 'o';
            }
        }
    }

    private static int ways(String[] part, int state) {
        String key = String.join("/", part) + " " + state;
        Integer known = WAYS.get(key);
        if (known == null) {
            List<String> found = new ArrayList<>();
            tile(toCover(part, state), 0, found);
            known = found.size();
            WAYS.put(key, known);
        }
        return known;
    }

    private static long letsOf(String[] part) {
        long let = 0;
        for (int state = 0; state < 1 << facesOf(part); state++) {
            let |= ways(part, state) > 0 ? 1L << state : 0;
        }
        return let;
    }

    private int covered(int part, int state, int xy) {
        String[] of = stateOf(part, state);
        char sign = signAt(part, xy);
        List<String> found = new ArrayList<>();
        tile(toCover(of, state), 0, found);
        if (found.isEmpty()) {
            return -9;
        }
        char cover = found.get(0).charAt(of[0].length() * (xy % 10) + xy / 10);
        return cover != '#' ? 1 + "RDLU".indexOf(cover) : sign == '#' ? 0 : 5;
    }

    private static long barred(String[] part) {
        long bits = 0;
        for (int state = 0; state < 1 << facesOf(part); state++) {
            char[][] cells = toCover(part, state);
            int more = 0;
            for (int y = 0; y < cells.length; y++) {
                for (int x = 0; x < cells[y].length; x++) {
                    more += cells[y][x] != 'o' ? 0 : (x + y) % 2 == 0 ? 1 : -1;
                }
            }
            bits |= more != 0 ? 1L << state : 0;
        }
        return bits;
    }

    // ---- FORMULAS: read by rewriting, one STATE at a time ----

    private void formulaAt(int formula) {
        refuseIf(formula < 0 || formula >= formulas.size(), -1);
    }

    private int formula() {
        refuseIf(formulas.size() == 20, -6);
        String text = tape;
        for (int end = 1; end <= text.length(); end++) {
            if (!isPrefix(text.substring(0, end))) {
                throw new Fault(end - 1);
            }
        }
        if (text.isEmpty() || "&|!(".indexOf(text.charAt(text.length() - 1)) >= 0 || open(text) > 0) {
            throw new Fault(text.length());
        }
        tape = "";
        formulas.add(text);
        return formulas.size() - 1;
    }

    private static int open(String text) {
        int open = 0;
        for (char sign : text.toCharArray()) {
            open += sign == '(' ? 1 : sign == ')' ? -1 : 0;
        }
        return open;
    }

    /** By a stack of '!' and '(' that are not ended yet. */
    private static boolean isPrefix(String text) {
        StringBuilder stack = new StringBuilder();
        boolean wantsUnit = true;
        for (char sign : text.toCharArray()) {
            if (wantsUnit && (sign == '!' || sign == '(')) {
                if (stack.length() == 5) {
                    return false;
                }
                stack.append(sign);
                continue;
            }
            if (wantsUnit) {
                if ("abcde01".indexOf(sign) < 0) {
                    return false;
                }
                wantsUnit = false;
            } else if (sign == '&' || sign == '|') {
                wantsUnit = true;
            } else if (sign == ')' && stack.length() > 0) {
                stack.setLength(stack.length() - 1);
            } else {
                return false;
            }
            while (!wantsUnit && stack.length() > 0 && stack.charAt(stack.length() - 1) == '!') {
                stack.setLength(stack.length() - 1);
            }
        }
        return true;
    }

    private static boolean isTrue(String text, int state) {
        StringBuilder signs = new StringBuilder();
        for (char sign : text.toCharArray()) {
            signs.append(sign >= 'a' && sign <= 'e' ? (char) ('0' + (state >> sign - 'a' & 1)) : sign);
        }
        String now = signs.toString();
        for (String before = ""; !before.equals(now); ) {
            before = now;
            now = now.replace("!0", "1").replace("!1", "0").replace("(0)", "0").replace("(1)", "1");
            if (!now.equals(before)) {
                continue;
            }
            now = now.replaceFirst("0&[01]|1&0", "0").replaceFirst("1&1", "1");
            if (!now.equals(before)) {
                continue;
            }
            now = now.replaceFirst("(^|[(|])0\\|0(?!&)", "$10").replaceFirst("(^|[(|])(?:1\\|[01]|0\\|1)(?!&)", "$11");
        }
        if (now.length() != 1) {
            throw new IllegalStateException(text + " becomes " + now);
        }
        return now.equals("1");
    }

    private static long meaning(String formula, int faces) {
        long bits = 0;
        for (int state = 0; state < 1 << faces; state++) {
            bits |= isTrue(formula, state) ? 1L << state : 0;
        }
        return bits;
    }

    private int misses(int part, int formula) {
        String[] of = partAt(part);
        formulaAt(formula);
        for (int state = 0; state < 1 << facesOf(of); state++) {
            if (ways(of, state) > 0 != isTrue(formulas.get(formula), state)) {
                return state;
            }
        }
        return -9;
    }

    // ---- PARTS of others ----

    private static String[] turned(String[] of) {
        String[] lines = new String[of[0].length()];
        for (int y = 0; y < lines.length; y++) {
            StringBuilder line = new StringBuilder();
            for (int x = 0; x < of.length; x++) {
                line.append(of[of.length - 1 - x].charAt(y));
            }
            lines[y] = line.toString();
        }
        return lines;
    }

    private static String[] mirrored(String[] of) {
        String[] lines = new String[of.length];
        for (int y = 0; y < lines.length; y++) {
            lines[y] = new StringBuilder(of[y]).reverse().toString();
        }
        return lines;
    }

    private static String[] with(String[] of, int x, int y, char sign) {
        String[] lines = of.clone();
        lines[y] = of[y].substring(0, x) + sign + of[y].substring(x + 1);
        return lines;
    }

    private int less(int part, int xy) {
        char sign = signAt(part, xy);
        refuseIf(sign != '.', -3);
        refuseIf(parts.size() == 24, -6);
        return keep(with(partAt(part), xy / 10, xy % 10, '#'));
    }

    private int rename(int part, int digits) {
        String[] of = partAt(part);
        int faces = facesOf(of);
        refuseIf(digits < 0, -3);
        String names = faces == 0 ? "" : String.format("%0" + faces + "d", digits);
        refuseIf(names.length() != faces || faces == 0 && digits != 0, -3);
        for (int face = 0; face < faces; face++) {
            refuseIf(names.indexOf('0' + face) < 0, -3);
        }
        refuseIf(parts.size() == 24, -6);
        String[] lines = new String[of.length];
        for (int y = 0; y < lines.length; y++) {
            StringBuilder line = new StringBuilder();
            for (char sign : of[y].toCharArray()) {
                line.append(Character.isDigit(sign) ? names.charAt(sign - '0') : sign);
            }
            lines[y] = line.toString();
        }
        return keep(lines);
    }

    private static int alike(String[] a, String[] b) {
        String[] now = a;
        for (int i = 0; i < 8; i++) {
            if (String.join("/", now).equals(String.join("/", b))) {
                return 1;
            }
            now = turned(now);
            if (i == 3) {
                now = mirrored(now);
            }
        }
        return 0;
    }

    private static int needless(String[] of) {
        int bits = 0;
        for (int y = 0; y < of.length; y++) {
            for (int x = 0; x < of[y].length(); x++) {
                if (of[y].charAt(x) == '.' && letsOf(with(of, x, y, '#')) == letsOf(of)) {
                    bits |= 1 << 5 * y + x;
                }
            }
        }
        return bits;
    }

    private int find(int wide, int high, int formula) {
        formulaAt(formula);
        refuseIf(wide < 1 || high < 1, -4);
        refuseIf(wide > 5 || high > 4 || wide * high > 9 || parts.size() == 24, -6);
        refuseIf(row.isEmpty() || new TreeSet<>(row).size() < row.size(), -3);
        for (int xy : row) {
            refuseIf(xy / 10 >= wide || xy % 10 >= high, -3);
        }
        long wanted = meaning(formulas.get(formula), row.size());
        List<Integer> told = new ArrayList<>(row);
        row.clear();
        for (int number = 0; number < 1 << wide * high - told.size(); number++) {
            String[] lines = new String[high];
            int other = 0;
            for (int y = 0; y < high; y++) {
                lines[y] = "";
                for (int x = 0; x < wide; x++) {
                    int face = told.indexOf(10 * x + y);
                    if (face >= 0) {
                        lines[y] += face;
                    } else {
                        lines[y] += (number >> other & 1) != 0 ? "#" : ".";
                        other++;
                    }
                }
            }
            if (letsOf(lines) == wanted) {
                return keep(lines);
            }
        }
        return -9;
    }

    // ---- NETS ----

    private Netted netAt(int net) {
        refuseIf(net < 0 || net >= nets.size(), -1);
        return nets.get(net);
    }

    private static boolean inLink(Netted net, int face) {
        for (int[] link : net.links) {
            if (link[0] == face || link[1] == face) {
                return true;
            }
        }
        return false;
    }

    private static List<Integer> facesOf(Netted net) {
        List<Integer> all = new ArrayList<>();
        for (int piece = 0; piece < net.pieces.size(); piece++) {
            for (int face = 0; face < facesOf(net.pieces.get(piece)); face++) {
                all.add(10 * piece + face);
            }
        }
        return all;
    }

    private static List<Integer> freeOf(Netted net) {
        List<Integer> free = new ArrayList<>();
        for (int face : facesOf(net)) {
            if (!inLink(net, face)) {
                free.add(face);
            }
        }
        return free;
    }

    private int link(int net, int a, int b) {
        Netted of = netAt(net);
        List<Integer> all = facesOf(of);
        refuseIf(!all.contains(a) || !all.contains(b), -1);
        refuseIf(a == b || inLink(of, a) || inLink(of, b), -3);
        refuseIf(of.links.size() == 12, -6);
        of.links.add(new int[] {a, b});
        return of.links.size();
    }

    private long netSum(int net, int state, boolean whether) {
        Netted of = netAt(net);
        List<Integer> free = freeOf(of);
        refuseIf(free.size() > 10, -3);
        refuseIf(state < 0 || state >= 1 << free.size(), -1);
        return sum(of, free, state, whether);
    }

    /** All STATES of all LINKS, one after the other. */
    private static long sum(Netted net, List<Integer> free, int state, boolean whether) {
        long sum = 0;
        for (int linked = 0; linked < 1 << net.links.size(); linked++) {
            Map<Integer, Integer> bits = new HashMap<>();
            for (int i = 0; i < free.size(); i++) {
                bits.put(free.get(i), state >> i & 1);
            }
            for (int i = 0; i < net.links.size(); i++) {
                bits.put(net.links.get(i)[0], linked >> i & 1);
                bits.put(net.links.get(i)[1], linked >> i & 1);
            }
            long product = 1;
            for (int piece = 0; piece < net.pieces.size() && product != 0; piece++) {
                int own = 0;
                for (int face = 0; face < facesOf(net.pieces.get(piece)); face++) {
                    own |= bits.get(10 * piece + face) << face;
                }
                long ways = ways(net.pieces.get(piece), own);
                product = whether ? product * Math.min(ways, 1) : product * ways % 1000000007L;
            }
            sum = (sum + product) % 1000000007L;
        }
        return sum;
    }

    private int netDoes(int net, int formula) {
        Netted of = netAt(net);
        formulaAt(formula);
        List<Integer> free = freeOf(of);
        if (free.size() > 5) {
            return 0;
        }
        for (int state = 0; state < 1 << free.size(); state++) {
            if (sum(of, free, state, true) > 0 != isTrue(formulas.get(formula), state)) {
                return 0;
            }
        }
        return 1;
    }

    // ---- THE FLOOR ----

    private int lay(int part, int x, int y) {
        Laid laid = new Laid();
        laid.part = partAt(part);
        laid.x = x;
        laid.y = y;
        refuseIf(x < 0 || y < 0, -4);
        refuseIf((long) x + laid.part[0].length() > 12 || (long) y + laid.part.length > 12 || floor.size() == 10, -6);
        floor.add(laid);
        return floor.size() - 1;
    }

    /** What a LAID one has on its CELLS: keys 100 times y and x. */
    private Map<Integer, Character> cellsOf(int number) {
        Laid laid = floor.get(number);
        Map<Integer, Character> cells = new HashMap<>();
        for (int y = 0; y < laid.part.length; y++) {
            for (int x = 0; x < laid.part[y].length(); x++) {
                if (laid.part[y].charAt(x) != '#') {
                    cells.put(100 * (laid.y + y) + laid.x + x, laid.part[y].charAt(x));
                }
            }
        }
        return cells;
    }

    private int overlap() {
        for (int a = 0; a < floor.size(); a++) {
            for (int b = a + 1; b < floor.size(); b++) {
                for (int key : cellsOf(a).keySet()) {
                    if (cellsOf(b).containsKey(key)) {
                        return 10 * a + b;
                    }
                }
            }
        }
        return -9;
    }

    private TreeSet<Integer> met(int laid, int face) {
        TreeSet<Integer> met = new TreeSet<>();
        for (Map.Entry<Integer, Character> own : cellsOf(laid).entrySet()) {
            if (own.getValue() != '0' + face) {
                continue;
            }
            for (int other = 0; other < floor.size(); other++) {
                for (int step : new int[] {1, -1, 100, -100}) {
                    Character sign = cellsOf(other).get(own.getKey() + step);
                    if (other != laid && sign != null && sign != '.') {
                        met.add(10 * other + sign - '0');
                    }
                }
            }
        }
        return met;
    }

    private int leak() {
        for (int laid = 0; laid < floor.size(); laid++) {
            for (int face = 0; face < facesOf(floor.get(laid).part); face++) {
                if (met(laid, face).size() > 1) {
                    return laid;
                }
            }
            for (Map.Entry<Integer, Character> own : cellsOf(laid).entrySet()) {
                for (int other = 0; own.getValue() == '.' && other < floor.size(); other++) {
                    for (int step : new int[] {1, -1, 100, -100}) {
                        if (other != laid && cellsOf(other).containsKey(own.getKey() + step)) {
                            return laid;
                        }
                    }
                }
            }
        }
        return -9;
    }

    private int floorNet() {
        refuseIf(floor.isEmpty() || overlap() != -9 || leak() != -9, -3);
        Netted made = new Netted();
        for (int laid = 0; laid < floor.size(); laid++) {
            made.pieces.add(floor.get(laid).part);
        }
        for (int face : facesOf(made)) {
            for (int met : met(face / 10, face % 10)) {
                if (!inLink(made, face)) {
                    made.links.add(new int[] {face, met});
                }
            }
        }
        refuseIf(nets.size() == 6 || made.pieces.size() > 8 || made.links.size() > 12, -6);
        nets.add(made);
        return nets.size() - 1;
    }

    private int count(int what) {
        int[] now = {parts.size(), formulas.size(), nets.size(), floor.size(), tape.length(), row.size()};
        if (what >= 0 && what < now.length) {
            return now[what];
        }
        return what >= 11 && what <= 16 ? refused[what - 10] : -9;
    }
}
