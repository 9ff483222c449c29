import java.util.ArrayList;
import java.util.List;
import java.util.Set;
import java.util.TreeMap;
import java.util.TreeSet;

/**
 * The document once more, as slowly and plainly as can be: what the program
 * answers is held against what this answers. It shares no code with it.
 */
final class SlowShop {
    private static final int NONE = -1, UNKNOWN = -101, OUTSIDE = -102, FULL = -104;

    private int[][][] b = new int[12][12][20];
    private final boolean[][] masks = new boolean[8][144];
    private final StringBuilder tape = new StringBuilder();
    private String printed = "";
    private final ArrayList<int[][][]> past = new ArrayList<>();
    private int where = NONE;

    SlowShop() {
        for (int[][] column : b) {
            for (int[] cubes : column) {
                cubes[0] = 1;
            }
        }
    }

    // ---- the words of the text

    private record Token(char kind, String text, int from) {
    }

    private static final class Stop extends RuntimeException {
        private static final long serialVersionUID = 1;
        final int number;
        final int from;

        Stop(int number, int from) {
            super(null, null, false, false);
            this.number = number;
            this.from = from;
        }
    }

    private static final class Node {
        String word;
        int from;
        List<String> args = new ArrayList<>();
        List<Node> body = new ArrayList<>();
    }

    private static List<Token> tokensOf(String text) {
        List<Token> tokens = new ArrayList<>();
        int i = 0;
        while (i < text.length()) {
            String rest = text.substring(i);
            String letters = rest.replaceAll("(?s)[^a-z].*", "");
            String figures = rest.replaceAll("(?s)[^0-9].*", "");
            if (!letters.isEmpty()) {
                tokens.add(new Token('w', letters, i));
                i += letters.length();
            } else if (!figures.isEmpty()) {
                tokens.add(new Token('n', figures, i));
                i += figures.length();
            } else {
                if (rest.charAt(0) != ' ' && rest.charAt(0) != '\n') {
                    tokens.add(new Token('s', rest.substring(0, 1), i));
                }
                i++;
            }
        }
        tokens.add(new Token('e', "", text.length()));
        return tokens;
    }

    private static final class Parser {
        final List<Token> tokens;
        int next = 0;
        int steps = 0;

        Parser(String text) {
            tokens = tokensOf(text);
        }

        List<Node> program(int depth) {
            List<Node> nodes = new ArrayList<>();
            while (true) {
                Token t = tokens.get(next);
                if (depth == 0 && t.kind == 'e' || depth > 0 && t.text.equals("}")) {
                    return nodes;
                }
                nodes.add(step(depth));
                sign(";");
            }
        }

        Node step(int depth) {
            Token t = tokens.get(next);
            String forms = " lay:sn cut:Tn dope:stnT coat:sn etch:Tn turn:stn fill:sh flat:h drop: mask:k bare: want:srw whole: repeat:p ";
            int at = t.kind == 'w' ? forms.indexOf(" " + t.text + ":") : -1;
            if (at < 0) {
                throw new Stop(1, t.from);
            }
            if (t.text.equals("repeat") && depth == 4) {
                throw new Stop(3, t.from);
            }
            if (++steps > 60) {
                throw new Stop(4, t.from);
            }
            next++;
            Node node = new Node();
            node.word = t.text;
            node.from = t.from;
            String form = forms.substring(forms.indexOf(':', at) + 1, forms.indexOf(' ', at + 1));
            for (char part : form.toCharArray()) {
                node.args.add(argument(part));
            }
            if (node.word.equals("repeat")) {
                sign("{");
                node.body = program(depth + 1);
                sign("}");
            }
            return node;
        }

        void sign(String text) {
            Token t = tokens.get(next);
            if (t.kind != 's' || !t.text.equals(text)) {
                throw new Stop(1, t.from);
            }
            next++;
        }

        String argument(char part) {
            Token t = tokens.get(next++);
            boolean fits;
            if (part == 's' || part == 't') {
                fits = t.kind == 'w' && t.text.matches("[a-g]");
            } else if (part == 'T') {
                fits = t.kind == 'w' && t.text.matches("[a-g]+") && t.text.chars().distinct().count() == t.text.length();
            } else if (part == 'r') {
                fits = t.kind == 's' && "=<>".contains(t.text);
            } else {
                fits = t.kind == 'n';
            }
            if (!fits) {
                throw new Stop(1, t.from);
            }
            if (t.kind == 'n') {
                int least = part == 'n' ? 1 : 0;
                int most = switch (part) {
                    case 'n', 'h' -> 20;
                    case 'k' -> 7;
                    case 'w' -> 99;
                    default -> 9;
                };
                if (t.text.length() > 2 || Integer.parseInt(t.text) < least || Integer.parseInt(t.text) > most) {
                    throw new Stop(2, t.from);
                }
            }
            return t.text;
        }
    }

    // ---- cubes

    private interface Test {
        boolean of(int x, int y, int z);
    }

    private interface Act {
        void on(int x, int y, int z);
    }

    private static void all(Act act) {
        for (int z = 0; z < 20; z++) {
            for (int y = 0; y < 12; y++) {
                for (int x = 0; x < 12; x++) {
                    act.on(x, y, z);
                }
            }
        }
    }

    private static int number(int x, int y, int z) {
        return 144 * z + 12 * y + x;
    }

    private static boolean onBoard(int x, int y, int z) {
        return x >= 0 && x < 12 && y >= 0 && y < 12 && z >= 0 && z < 20;
    }

    private static boolean besideOne(int x, int y, int z, Test test) {
        int[][] ways = {{1, 0, 0}, {-1, 0, 0}, {0, 1, 0}, {0, -1, 0}, {0, 0, 1}, {0, 0, -1}};
        for (int[] w : ways) {
            if (onBoard(x + w[0], y + w[1], z + w[2]) && test.of(x + w[0], y + w[1], z + w[2])) {
                return true;
            }
        }
        return false;
    }

    /** All cubes that fit and are joined by such ones to one at a height; repeated sweeps. */
    private static boolean[][][] joinedTo(int height, Test fits) {
        boolean[][][] in = new boolean[12][12][20];
        boolean[] more = {true};
        while (more[0]) {
            more[0] = false;
            Act act = (x, y, z) -> {
                if (!in[x][y][z] && fits.of(x, y, z) && (z == height || besideOne(x, y, z, (i, j, k) -> in[i][j][k]))) {
                    in[x][y][z] = true;
                    more[0] = true;
                }
            };
            all(act);
            for (int z = 19; z >= 0; z--) {
                for (int p = 143; p >= 0; p--) {
                    act.on(p % 12, p / 12, z);
                }
            }
        }
        return in;
    }

    private boolean[][][] open() {
        return joinedTo(19, (x, y, z) -> b[x][y][z] == 0);
    }

    private boolean[][][] standing() {
        return joinedTo(0, (x, y, z) -> b[x][y][z] != 0);
    }

    private int count(Test test) {
        int[] n = {0};
        all((x, y, z) -> n[0] += test.of(x, y, z) ? 1 : 0);
        return n[0];
    }

    private int[][][] copy() {
        int[][][] c = new int[12][12][20];
        all((x, y, z) -> c[x][y][z] = b[x][y][z]);
        return c;
    }

    // ---- doing

    private int done;
    private boolean[] mask;

    private void doAll(List<Node> nodes) {
        for (Node node : nodes) {
            if (done == 300) {
                throw new Stop(3, node.from);
            }
            done++;
            if (node.word.equals("repeat")) {
                for (int i = 0; i < Integer.parseInt(node.args.get(0)); i++) {
                    doAll(node.body);
                }
            } else {
                doOne(node);
            }
        }
    }

    private static int stuff(String letter) {
        return letter.charAt(0) - 'a' + 1;
    }

    private static boolean isOf(int cube, String letters) {
        return cube != 0 && letters.indexOf('a' + cube - 1) >= 0;
    }

    private void doOne(Node node) {
        List<String> a = node.args;
        int n = a.isEmpty() || !a.get(a.size() - 1).matches("[0-9]+") ? 0 : Integer.parseInt(a.get(a.size() - 1));
        switch (node.word) {
            case "mask" -> mask = masks[n];
            case "bare" -> mask = null;
            case "lay", "cut", "dope" -> {
                for (int p = 0; p < 144; p++) {
                    if (mask == null || mask[p]) {
                        doPlace(node, b[p % 12][p / 12]);
                    }
                }
            }
            case "want" -> {
                int got = count((x, y, z) -> b[x][y][z] == stuff(a.get(0)));
                int compared = Integer.compare(got, 10 * n);
                if (compared != (a.get(1).equals("<") ? -1 : a.get(1).equals(">") ? 1 : 0)) {
                    throw new Stop(1, node.from);
                }
            }
            case "whole" -> {
                if (volume(9) > 0) {
                    throw new Stop(2, node.from);
                }
            }
            default -> doBoard(node, n);
        }
    }

    private void doPlace(Node node, int[] c) {
        List<String> a = node.args;
        if (node.word.equals("lay")) {
            int low = topOf(c) + 1;
            for (int i = 0; i < Integer.parseInt(a.get(1)); i++) {
                if (low + i < 20) {
                    c[low + i] = stuff(a.get(0));
                }
            }
        } else if (node.word.equals("cut")) {
            for (int i = 0; i < Integer.parseInt(a.get(1)); i++) {
                int top = topOf(c);
                if (top >= 0 && isOf(c[top], a.get(0))) {
                    c[top] = 0;
                }
            }
        } else {
            int z = topOf(c);
            int left = Integer.parseInt(a.get(2));
            while (z >= 0 && left > 0 && isOf(c[z], a.get(0) + a.get(3))) {
                if (c[z] == stuff(a.get(0))) {
                    c[z] = stuff(a.get(1));
                }
                z--;
                left--;
            }
        }
    }

    private void doBoard(Node node, int n) {
        List<String> a = node.args;
        if (node.word.equals("turn")) {
            turn(stuff(a.get(0)), stuff(a.get(1)), n);
            return;
        }
        int times = node.word.equals("coat") || node.word.equals("etch") ? n : 1;
        for (int i = 0; i < times; i++) {
            boolean[][][] open = open();
            boolean[][][] stands = standing();
            int[][][] old = copy();
            all((x, y, z) -> {
                boolean exposed = z == 19 || besideOne(x, y, z, (p, q, r) -> open[p][q][r]);
                boolean touches = besideOne(x, y, z, (p, q, r) -> old[p][q][r] != 0);
                if (node.word.equals("coat") && open[x][y][z] && touches) {
                    b[x][y][z] = stuff(a.get(0));
                }
                if (node.word.equals("etch") && isOf(old[x][y][z], a.get(0)) && exposed) {
                    b[x][y][z] = 0;
                }
                if (node.word.equals("fill") && open[x][y][z] && z < n) {
                    b[x][y][z] = stuff(a.get(0));
                }
                if (node.word.equals("flat") && z >= n || node.word.equals("drop") && !stands[x][y][z]) {
                    b[x][y][z] = 0;
                }
            });
        }
    }

    private void turn(int s, int t, int n) {
        boolean[][][] came = new boolean[12][12][20];
        for (int i = 0; i < n; i++) {
            boolean first = i == 0;
            boolean[][][] open = open();
            boolean[][][] now = new boolean[12][12][20];
            all((x, y, z) -> {
                boolean at = first ? z == 19 || besideOne(x, y, z, (p, q, r) -> open[p][q][r])
                    : besideOne(x, y, z, (p, q, r) -> came[p][q][r]);
                now[x][y][z] = b[x][y][z] == s && at;
            });
            all((x, y, z) -> {
                if (now[x][y][z]) {
                    b[x][y][z] = t;
                    came[x][y][z] = true;
                }
            });
        }
    }

    // ---- the calls

    int rect(int k, int x0, int y0, int x1, int y1, boolean on) {
        if (k < 0 || k > 7) {
            return UNKNOWN;
        }
        for (int v : new int[] {x0, y0, x1, y1}) {
            if (v < 0 || v > 11) {
                return OUTSIDE;
            }
        }
        if (x0 > x1 || y0 > y1) {
            return OUTSIDE;
        }
        for (int p = 0; p < 144; p++) {
            if (p % 12 >= x0 && p % 12 <= x1 && p / 12 >= y0 && p / 12 <= y1) {
                masks[k][p] = on;
            }
        }
        return size(k);
    }

    private int size(int k) {
        int n = 0;
        for (boolean in : masks[k]) {
            n += in ? 1 : 0;
        }
        return n;
    }

    int masked(int k, int place) {
        return k < 0 || k > 7 || place < 0 || place > 143 ? UNKNOWN : masks[k][place] ? 1 : 0;
    }

    int turned(int k) {
        if (k < 0 || k > 7) {
            return UNKNOWN;
        }
        for (int p = 0; p < 144; p++) {
            masks[k][p] ^= true;
        }
        return size(k);
    }

    int feed(int... numbers) {
        if (tape.length() > 580) {
            return FULL;
        }
        for (int number : numbers) {
            String hex = String.format("%08x", number);
            for (int i = 0; i < 8; i += 2) {
                tape.append((char) Integer.parseInt(hex.substring(i, i + 2), 16));
            }
        }
        return tape.length();
    }

    int cut(int n) {
        if (n < 0 || n > tape.length()) {
            return OUTSIDE;
        }
        int went = tape.length() - n;
        tape.delete(n, tape.length());
        return went;
    }

    int run() {
        List<Node> program;
        try {
            program = new Parser(tape.toString()).program(0);
        } catch (Stop fault) {
            where = fault.from;
            return -10 - fault.number;
        }
        int[][][] before = copy();
        try {
            done = 0;
            mask = null;
            doAll(program);
        } catch (Stop failure) {
            b = before;
            where = failure.from;
            return -20 - failure.number;
        }
        past.add(before);
        if (past.size() > 6) {
            past.remove(0);
        }
        where = NONE;
        return done;
    }

    int place() {
        return where;
    }

    int undo() {
        if (past.isEmpty()) {
            return 0;
        }
        b = past.remove(past.size() - 1);
        return 1;
    }

    int at(int place, int z) {
        return place < 0 || place > 143 || z < 0 || z > 19 ? UNKNOWN : b[place % 12][place / 12][z];
    }

    private static int topOf(int[] c) {
        int top = NONE;
        for (int z = 0; z < 20; z++) {
            top = c[z] != 0 ? z : top;
        }
        return top;
    }

    int top(int place) {
        return place < 0 || place > 143 ? UNKNOWN : topOf(b[place % 12][place / 12]);
    }

    int volume(int what) {
        boolean[][][] open = open();
        boolean[][][] stands = standing();
        return switch (what) {
            case 0, 1, 2, 3, 4, 5, 6, 7 -> count((x, y, z) -> b[x][y][z] == what);
            case 8 -> count((x, y, z) -> open[x][y][z]);
            case 9 -> count((x, y, z) -> b[x][y][z] != 0 && !stands[x][y][z]);
            case 10 -> count((x, y, z) -> b[x][y][z] != 0);
            case 11 -> count((x, y, z) -> b[x][y][z] == 0 && !open[x][y][z]);
            default -> OUTSIDE;
        };
    }

    /** The spans of a place: stuff, how high, lowest height. */
    private List<int[]> spans(int place) {
        int[] c = b[place % 12][place / 12];
        List<int[]> spans = new ArrayList<>();
        for (int z = 0; z <= topOf(c); z++) {
            if (!spans.isEmpty() && spans.get(spans.size() - 1)[0] == c[z]) {
                spans.get(spans.size() - 1)[1]++;
            } else {
                spans.add(new int[] {c[z], 1, z});
            }
        }
        return spans;
    }

    int span(int place, int i, int what) {
        if (place < 0 || place > 143) {
            return UNKNOWN;
        }
        List<int[]> spans = spans(place);
        if (i == NONE) {
            return spans.size();
        }
        if (i < 0 || i >= spans.size()) {
            return UNKNOWN;
        }
        return what < 0 || what > 2 ? OUTSIDE : spans.get(i)[what];
    }

    int thin(int stuff, int n) {
        if (stuff < 1 || stuff > 7 || n < 1 || n > 20) {
            return OUTSIDE;
        }
        for (int place = 0; place < 144; place++) {
            for (int[] s : spans(place)) {
                if (s[0] == stuff && s[1] < n) {
                    return place;
                }
            }
        }
        return NONE;
    }

    /** The nets by their least cubes, each with its cubes: every cube takes the least number beside it until none changes. */
    private TreeMap<Integer, TreeSet<Integer>> netsOf(int set) {
        int[][][] least = new int[12][12][20];
        Test in = (x, y, z) -> b[x][y][z] != 0 && (set >> b[x][y][z] - 1 & 1) == 1;
        all((x, y, z) -> least[x][y][z] = number(x, y, z));
        boolean[] more = {true};
        while (more[0]) {
            more[0] = false;
            all((x, y, z) -> {
                if (in.of(x, y, z)) {
                    for (int v = 0; v < 6; v++) {
                        int i = x + (v == 0 ? 1 : v == 1 ? -1 : 0);
                        int j = y + (v == 2 ? 1 : v == 3 ? -1 : 0);
                        int k = z + (v == 4 ? 1 : v == 5 ? -1 : 0);
                        if (onBoard(i, j, k) && in.of(i, j, k) && least[i][j][k] < least[x][y][z]) {
                            least[x][y][z] = least[i][j][k];
                            more[0] = true;
                        }
                    }
                }
            });
        }
        TreeMap<Integer, TreeSet<Integer>> nets = new TreeMap<>();
        all((x, y, z) -> {
            if (in.of(x, y, z)) {
                nets.computeIfAbsent(least[x][y][z], l -> new TreeSet<>()).add(number(x, y, z));
            }
        });
        return nets;
    }

    int nets(int set) {
        return set < 0 || set > 127 ? OUTSIDE : netsOf(set).size();
    }

    int netOf(int place, int z, int set) {
        if (place < 0 || place > 143 || z < 0 || z > 19) {
            return UNKNOWN;
        }
        if (set < 0 || set > 127) {
            return OUTSIDE;
        }
        int i = 0;
        for (Set<Integer> net : netsOf(set).values()) {
            if (net.contains(144 * z + place)) {
                return i;
            }
            i++;
        }
        return NONE;
    }

    int net(int i, int set, int what) {
        if (set < 0 || set > 127) {
            return OUTSIDE;
        }
        List<TreeSet<Integer>> nets = new ArrayList<>(netsOf(set).values());
        if (i < 0 || i >= nets.size()) {
            return UNKNOWN;
        }
        TreeSet<Integer> net = nets.get(i);
        TreeSet<Integer> heights = new TreeSet<>();
        TreeSet<Integer> places = new TreeSet<>();
        for (int cube : net) {
            heights.add(cube / 144);
            places.add(cube % 144);
        }
        return switch (what) {
            case 0 -> net.first();
            case 1 -> net.size();
            case 2 -> heights.first();
            case 3 -> heights.last();
            case 4 -> places.size();
            default -> OUTSIDE;
        };
    }

    int joined(int place, int other, int set) {
        if (place < 0 || place > 143 || other < 0 || other > 143) {
            return UNKNOWN;
        }
        if (set < 0 || set > 127) {
            return OUTSIDE;
        }
        if (top(place) == NONE || top(other) == NONE) {
            return 0;
        }
        int net = netOf(place, top(place), set);
        return net >= 0 && net == netOf(other, top(other), set) ? 1 : 0;
    }

    int device(int order, int what) {
        if (!Integer.toString(order).matches("[1-7]{1,4}") || what < 0 || what > 3) {
            return OUTSIDE;
        }
        TreeSet<Integer> left = new TreeSet<>();
        for (int place = 0; place < 144; place++) {
            StringBuilder stuffs = new StringBuilder();
            for (int[] s : spans(place)) {
                stuffs.append(s[0]);
            }
            if (stuffs.indexOf(Integer.toString(order)) >= 0) {
                left.add(place);
            }
        }
        int places = left.size();
        int least = left.isEmpty() ? NONE : left.first();
        int groups = 0;
        int most = 0;
        while (!left.isEmpty()) {
            groups++;
            most = Math.max(most, take(left, left.first()));
        }
        return new int[] {places, groups, least, most}[what];
    }

    private static int take(Set<Integer> left, int place) {
        if (!left.remove(place)) {
            return 0;
        }
        int n = 1;
        n += place % 12 > 0 ? take(left, place - 1) : 0;
        n += place % 12 < 11 ? take(left, place + 1) : 0;
        return n + take(left, place - 12) + take(left, place + 12);
    }

    int section(int axis, int at) {
        if (axis < 0 || axis > 1 || at < 0 || at > 11) {
            return OUTSIDE;
        }
        boolean[][][] open = open();
        StringBuilder text = new StringBuilder();
        for (int z = 19; z >= 0; z--) {
            for (int i = 0; i < 12; i++) {
                int x = axis == 0 ? i : at;
                int y = axis == 0 ? at : i;
                text.append(b[x][y][z] != 0 ? "?abcdefg".charAt(b[x][y][z]) : open[x][y][z] ? '.' : '-');
            }
            text.append('\n');
        }
        printed = text.toString();
        return text.length();
    }

    int out(int i) {
        return i < 0 || i >= printed.length() ? NONE : printed.charAt(i);
    }

    int digest() {
        int[] d = {7};
        all((x, y, z) -> d[0] = 31 * d[0] + b[x][y][z]);
        return d[0];
    }
}
