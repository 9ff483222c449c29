import java.util.Arrays;

/**
 * A shop of layers: making steps on a board of little cubes, and what can be
 * asked of the board. The document DOC.md tells what each call promises.
 */
public final class LayerShop {
    public static final int NONE = -1, UNKNOWN = -101, OUTSIDE = -102, STATE = -103, FULL = -104;

    private static final int SIDE = 12;
    private static final int PLACES = SIDE * SIDE;
    private static final int HEIGHTS = 20;
    private static final int CUBES = PLACES * HEIGHTS;
    private static final int WAYS = 6;
    private static final int WAYS_OF_PLACES = 4;

    private static final int STUFFS = 7;
    private static final int ALL_STUFFS = 127;
    // Kinds are sets of what a cube can be: bit 0 for empty, bits 1 to 7 for a to g.
    private static final int EMPTY_KIND = 1;
    private static final int STUFF_KINDS = 254;

    private static final int MASKS = 8;
    private static final int TAPE_MOST = 600;
    private static final int BYTES_OF_NUMBER = 4;
    private static final int BYTES_OF_FEED = 20;
    private static final int STEPS_MOST = 60;
    private static final int REPEATS_MOST = 4;
    private static final int DONE_MOST = 300;
    private static final int UNDO_MOST = 6;
    private static final int FIGURES_MOST = 4;
    private static final int PAGE_BYTES = HEIGHTS * (SIDE + 1);

    private static final int FAULT_PLACED = 1;
    private static final int FAULT_NUMBER = 2;
    private static final int FAULT_NESTED = 3;
    private static final int FAULT_STEPS = 4;
    private static final int FAIL_WANT = 1;
    private static final int FAIL_WHOLE = 2;
    private static final int FAIL_STEPS = 3;

    private static final int LAY = 0;
    private static final int CUT = 1;
    private static final int DOPE = 2;
    private static final int COAT = 3;
    private static final int ETCH = 4;
    private static final int TURN = 5;
    private static final int FILL = 6;
    private static final int FLAT = 7;
    private static final int DROP = 8;
    private static final int MASK = 9;
    private static final int BARE = 10;
    private static final int WANT = 11;
    private static final int WHOLE = 12;
    private static final int REPEAT = 13;
    private static final int WORDS = 14;

    private final Board board = new Board();
    private final Flood flood = new Flood();
    private final Works works = new Works(board, flood);
    private final Masks masks = new Masks();
    private final Tape tape = new Tape();
    private final Tokens tokens = new Tokens(tape);
    private final Program program = new Program();
    private final Runner runner = new Runner(board, works, masks);
    private final History history = new History();
    private final Devices devices = new Devices(board);
    private final int[] page = new int[PAGE_BYTES];
    private int pageBytes = 0;
    private int stoppedByte = NONE;

    public LayerShop() {
    }

    // ---- masks, texts

    public int rect(int k, int x0, int y0, int x1, int y1, boolean on) {
        if (!within(k, 0, MASKS - 1)) {
            return UNKNOWN;
        }
        if (x0 < 0 || x1 < x0 || x1 >= SIDE || y0 < 0 || y1 < y0 || y1 >= SIDE) {
            return OUTSIDE;
        }
        for (int y = y0; y <= y1; y++) {
            for (int x = x0; x <= x1; x++) {
                masks.put(k, SIDE * y + x, on);
            }
        }
        return masks.size(k);
    }

    public int masked(int k, int place) {
        if (!within(k, 0, MASKS - 1) || !isPlace(place)) {
            return UNKNOWN;
        }
        return masks.has(k, place) ? 1 : 0;
    }

    public int turned(int k) {
        if (!within(k, 0, MASKS - 1)) {
            return UNKNOWN;
        }
        for (int place = 0; place < PLACES; place++) {
            masks.put(k, place, !masks.has(k, place));
        }
        return masks.size(k);
    }

    public int feed(int a, int b, int c, int d, int e) {
        if (tape.length + BYTES_OF_FEED > TAPE_MOST) {
            return FULL;
        }
        tape.append(a);
        tape.append(b);
        tape.append(c);
        tape.append(d);
        tape.append(e);
        return tape.length;
    }

    public int cut(int n) {
        if (!within(n, 0, tape.length)) {
            return OUTSIDE;
        }
        int went = tape.length - n;
        tape.length = n;
        return went;
    }

    public int run() {
        int fault = program.read(tokens);
        if (fault != 0) {
            stoppedByte = tokens.from;
            return -10 - fault;
        }
        history.note(board.cubes);
        int failure = runner.perform(program);
        if (failure != 0) {
            history.bringBack(board.cubes);
            stoppedByte = runner.stepByte;
            return -20 - failure;
        }
        history.keepNoted();
        stoppedByte = NONE;
        return runner.done;
    }

    public int place() {
        return stoppedByte;
    }

    public int undo() {
        if (!history.stepBack()) {
            return 0;
        }
        history.bringBack(board.cubes);
        return 1;
    }

    // ---- the board

    public int at(int place, int z) {
        if (!isPlace(place) || !isHeight(z)) {
            return UNKNOWN;
        }
        return board.cubes[z * PLACES + place];
    }

    public int top(int place) {
        return isPlace(place) ? board.highest(place) : UNKNOWN;
    }

    public int volume(int what) {
        if (!within(what, 0, 11)) {
            return OUTSIDE;
        }
        switch (what) {
            case 8:
                return works.countOpen();
            case 9:
                return works.countFloating();
            case 10:
                return board.count(STUFF_KINDS);
            case 11:
                return board.count(EMPTY_KIND) - works.countOpen();
            default:
                return board.count(1 << what);
        }
    }

    public int span(int place, int i, int what) {
        if (!isPlace(place)) {
            return UNKNOWN;
        }
        if (i == NONE) {
            return board.countSpans(place);
        }
        int low = board.lowOfSpan(place, i);
        if (low == NONE) {
            return UNKNOWN;
        }
        switch (what) {
            case 0:
                return board.cubes[low * PLACES + place];
            case 1:
                return board.endOfSpan(place, low) - low;
            case 2:
                return low;
            default:
                return OUTSIDE;
        }
    }

    public int thin(int stuff, int n) {
        if (!within(stuff, 1, STUFFS) || !within(n, 1, HEIGHTS)) {
            return OUTSIDE;
        }
        for (int place = 0; place < PLACES; place++) {
            if (board.hasThinSpan(place, stuff, n)) {
                return place;
            }
        }
        return NONE;
    }

    // ---- nets, devices

    public int nets(int set) {
        return isSet(set) ? flood.markNets(board.cubes, kindsOf(set)) : OUTSIDE;
    }

    public int netOf(int place, int z, int set) {
        if (!isPlace(place) || !isHeight(z)) {
            return UNKNOWN;
        }
        if (!isSet(set)) {
            return OUTSIDE;
        }
        flood.markNets(board.cubes, kindsOf(set));
        return flood.netAt(z * PLACES + place);
    }

    public int net(int i, int set, int what) {
        if (!isSet(set)) {
            return OUTSIDE;
        }
        if (!within(i, 0, flood.markNets(board.cubes, kindsOf(set)) - 1)) {
            return UNKNOWN;
        }
        switch (what) {
            case 0:
                return flood.leastOfNet(i);
            case 1:
                return flood.sizeOfNet(i);
            case 2:
                return flood.leastOfNet(i) / PLACES;
            case 3:
                return flood.greatestOfNet(i) / PLACES;
            case 4:
                return flood.placesOfNet(i);
            default:
                return OUTSIDE;
        }
    }

    public int joined(int place, int other, int set) {
        if (!isPlace(place) || !isPlace(other)) {
            return UNKNOWN;
        }
        if (!isSet(set)) {
            return OUTSIDE;
        }
        int top = board.highest(place);
        int otherTop = board.highest(other);
        if (top == NONE || otherTop == NONE) {
            return 0;
        }
        flood.markNets(board.cubes, kindsOf(set));
        int net = flood.netAt(top * PLACES + place);
        return net != NONE && net == flood.netAt(otherTop * PLACES + other) ? 1 : 0;
    }

    public int device(int order, int what) {
        if (!devices.takeOrder(order) || !within(what, 0, 3)) {
            return OUTSIDE;
        }
        devices.find();
        switch (what) {
            case 0:
                return devices.places;
            case 1:
                return devices.groups;
            case 2:
                return devices.least;
            default:
                return devices.most;
        }
    }

    // ---- what comes out

    public int section(int axis, int where) {
        if (!within(axis, 0, 1) || !within(where, 0, SIDE - 1)) {
            return OUTSIDE;
        }
        flood.markOpen(board.cubes);
        pageBytes = 0;
        for (int z = HEIGHTS - 1; z >= 0; z--) {
            for (int i = 0; i < SIDE; i++) {
                int place = axis == 0 ? SIDE * where + i : SIDE * i + where;
                print(signOf(z * PLACES + place));
            }
            print('\n');
        }
        return pageBytes;
    }

    public int out(int i) {
        return within(i, 0, pageBytes - 1) ? page[i] : NONE;
    }

    public int digest() {
        int sum = 7;
        for (int cube = 0; cube < CUBES; cube++) {
            sum = 31 * sum + board.cubes[cube];
        }
        return sum;
    }

    private void print(int sign) {
        if (pageBytes < PAGE_BYTES) {
            page[pageBytes] = sign;
            pageBytes++;
        }
    }

    /** How a cube is printed; what is open has been marked. */
    private int signOf(int cube) {
        int stuff = board.cubes[cube];
        if (stuff != 0) {
            return 'a' + stuff - 1;
        }
        return flood.isMarked(cube) ? '.' : '-';
    }

    private static boolean within(int number, int least, int most) {
        return number >= least && number <= most;
    }

    private static boolean isPlace(int place) {
        return within(place, 0, PLACES - 1);
    }

    private static boolean isHeight(int z) {
        return within(z, 0, HEIGHTS - 1);
    }

    private static boolean isSet(int set) {
        return within(set, 0, ALL_STUFFS);
    }

    private static int kindsOf(int set) {
        return set << 1;
    }

    private static boolean hasKind(int kinds, int stuff) {
        return (kinds >> stuff & 1) != 0;
    }

    /** The cube beside a cube on one of six ways, or NONE; the first four ways lead between places too. */
    private static int beside(int cube, int way) {
        switch (way) {
            case 0:
                return cube % SIDE > 0 ? cube - 1 : NONE;
            case 1:
                return cube % SIDE < SIDE - 1 ? cube + 1 : NONE;
            case 2:
                return cube % PLACES >= SIDE ? cube - SIDE : NONE;
            case 3:
                return cube % PLACES < PLACES - SIDE ? cube + SIDE : NONE;
            case 4:
                return cube >= PLACES ? cube - PLACES : NONE;
            default:
                return cube < CUBES - PLACES ? cube + PLACES : NONE;
        }
    }

    private static String nameOf(int word) {
        switch (word) {
            case LAY:
                return "lay";
            case CUT:
                return "cut";
            case DOPE:
                return "dope";
            case COAT:
                return "coat";
            case ETCH:
                return "etch";
            case TURN:
                return "turn";
            case FILL:
                return "fill";
            case FLAT:
                return "flat";
            case DROP:
                return "drop";
            case MASK:
                return "mask";
            case BARE:
                return "bare";
            case WANT:
                return "want";
            case WHOLE:
                return "whole";
            default:
                return "repeat";
        }
    }

    /** What comes behind a word, a sign a token; Program.readPart tells the signs. */
    private static String formOf(int word) {
        switch (word) {
            case LAY:
            case COAT:
                return "sn;";
            case CUT:
            case ETCH:
                return "Tn;";
            case DOPE:
                return "stnT;";
            case TURN:
                return "stn;";
            case FILL:
                return "sh;";
            case FLAT:
                return "h;";
            case MASK:
                return "k;";
            case WANT:
                return "srw;";
            case REPEAT:
                return "p{";
            default:
                return ";";
        }
    }

    /** Eight sets of places. */
    private static final class Masks {
        private final boolean[] members = new boolean[MASKS * PLACES];

        boolean has(int mask, int place) {
            return members[mask * PLACES + place];
        }

        void put(int mask, int place, boolean on) {
            members[mask * PLACES + place] = on;
        }

        int size(int mask) {
            int count = 0;
            for (int place = 0; place < PLACES; place++) {
                if (has(mask, place)) {
                    count++;
                }
            }
            return count;
        }
    }

    /** The cubes, and what is told of single places. */
    private static final class Board {
        private final int[] cubes = new int[CUBES];

        Board() {
            for (int place = 0; place < PLACES; place++) {
                cubes[place] = 1;
            }
        }

        int highest(int place) {
            for (int z = HEIGHTS - 1; z >= 0; z--) {
                if (cubes[z * PLACES + place] != 0) {
                    return z;
                }
            }
            return NONE;
        }

        int count(int kinds) {
            int count = 0;
            for (int cube = 0; cube < CUBES; cube++) {
                if (hasKind(kinds, cubes[cube])) {
                    count++;
                }
            }
            return count;
        }

        void layOn(int place, int stuff, int times) {
            int low = highest(place) + 1;
            for (int z = low; z < low + times && z < HEIGHTS; z++) {
                cubes[z * PLACES + place] = stuff;
            }
        }

        void cutDown(int place, int kinds, int times) {
            for (int i = 0; i < times; i++) {
                int top = highest(place);
                if (top == NONE || !hasKind(kinds, cubes[top * PLACES + place])) {
                    return;
                }
                cubes[top * PLACES + place] = 0;
            }
        }

        void dopeDown(int place, Step step) {
            int passed = step.kinds | 1 << step.stuff;
            int top = highest(place);
            for (int z = top; z >= 0 && z > top - step.number; z--) {
                int cube = z * PLACES + place;
                if (!hasKind(passed, cubes[cube])) {
                    return;
                }
                if (cubes[cube] == step.stuff) {
                    cubes[cube] = step.other;
                }
            }
        }

        /** The first height above a span that begins at a height. */
        int endOfSpan(int place, int low) {
            int end = low + 1;
            while (end < HEIGHTS && cubes[end * PLACES + place] == cubes[low * PLACES + place]) {
                end++;
            }
            return end;
        }

        boolean beginsSpan(int place, int z) {
            return z == 0 || cubes[z * PLACES + place] != cubes[(z - 1) * PLACES + place];
        }

        int countSpans(int place) {
            int top = highest(place);
            int count = 0;
            for (int z = 0; z <= top; z++) {
                if (beginsSpan(place, z)) {
                    count++;
                }
            }
            return count;
        }

        int lowOfSpan(int place, int i) {
            int top = highest(place);
            int count = 0;
            for (int z = 0; z <= top; z++) {
                if (beginsSpan(place, z)) {
                    if (count == i) {
                        return z;
                    }
                    count++;
                }
            }
            return NONE;
        }

        boolean hasThinSpan(int place, int stuff, int n) {
            for (int z = 0; z < HEIGHTS; z++) {
                boolean begins = cubes[z * PLACES + place] == stuff && beginsSpan(place, z);
                if (begins && endOfSpan(place, z) - z < n) {
                    return true;
                }
            }
            return false;
        }
    }

    /** Marks cubes that are joined: a mark is 0, or the number of its flood. */
    private static final class Flood {
        private final int[] marks = new int[CUBES];
        private final int[] queue = new int[CUBES];
        private int queued = 0;

        void markOpen(int[] cubes) {
            addHeight(cubes, EMPTY_KIND, HEIGHTS - 1);
            spread(cubes, EMPTY_KIND, 1);
        }

        void markStanding(int[] cubes) {
            addHeight(cubes, STUFF_KINDS, 0);
            spread(cubes, STUFF_KINDS, 1);
        }

        /** Marks all nets and answers how many there are. */
        int markNets(int[] cubes, int kinds) {
            Arrays.fill(marks, 0);
            int count = 0;
            for (int cube = 0; cube < CUBES; cube++) {
                if (marks[cube] == 0 && hasKind(kinds, cubes[cube])) {
                    count++;
                    queued = 0;
                    add(cube, count);
                    spread(cubes, kinds, count);
                }
            }
            return count;
        }

        boolean isMarked(int cube) {
            return marks[cube] != 0;
        }

        int netAt(int cube) {
            return marks[cube] == 0 ? NONE : marks[cube] - 1;
        }

        int leastOfNet(int net) {
            for (int cube = 0; cube < CUBES; cube++) {
                if (marks[cube] == net + 1) {
                    return cube;
                }
            }
            return NONE;
        }

        int greatestOfNet(int net) {
            for (int cube = CUBES - 1; cube >= 0; cube--) {
                if (marks[cube] == net + 1) {
                    return cube;
                }
            }
            return NONE;
        }

        int sizeOfNet(int net) {
            int count = 0;
            for (int cube = 0; cube < CUBES; cube++) {
                if (marks[cube] == net + 1) {
                    count++;
                }
            }
            return count;
        }

        int placesOfNet(int net) {
            int count = 0;
            for (int place = 0; place < PLACES; place++) {
                if (isOver(place, net)) {
                    count++;
                }
            }
            return count;
        }

        private boolean isOver(int place, int net) {
            for (int cube = place; cube < CUBES; cube += PLACES) {
                if (marks[cube] == net + 1) {
                    return true;
                }
            }
            return false;
        }

        /** Begins anew, from the cubes of one height. */
        private void addHeight(int[] cubes, int kinds, int z) {
            Arrays.fill(marks, 0);
            queued = 0;
            for (int place = 0; place < PLACES; place++) {
                int cube = z * PLACES + place;
                if (hasKind(kinds, cubes[cube])) {
                    add(cube, 1);
                }
            }
        }

        private void add(int cube, int mark) {
            if (queued < CUBES) {
                marks[cube] = mark;
                queue[queued] = cube;
                queued++;
            }
        }

        private void spread(int[] cubes, int kinds, int mark) {
            for (int i = 0; i < queued && i < CUBES; i++) {
                for (int way = 0; way < WAYS; way++) {
                    int next = beside(queue[i], way);
                    if (next != NONE && marks[next] == 0 && hasKind(kinds, cubes[next])) {
                        add(next, mark);
                    }
                }
            }
        }
    }

    /** The steps that are for the whole board. */
    private static final class Works {
        private final int[] cubes;
        private final Flood flood;
        // What changes at once is picked first, so that no change is seen too early.
        private final int[] picked = new int[CUBES];
        private int picks = 0;

        Works(Board board, Flood flood) {
            this.cubes = board.cubes;
            this.flood = flood;
        }

        int countOpen() {
            flood.markOpen(cubes);
            return countMarked(true, EMPTY_KIND);
        }

        int countFloating() {
            flood.markStanding(cubes);
            return countMarked(false, STUFF_KINDS);
        }

        void coat(int stuff, int times) {
            boolean more = true;
            for (int i = 0; i < times && more; i++) {
                flood.markOpen(cubes);
                pickSurface();
                putPicked(stuff);
                // A time that changes nothing is like all that would follow.
                more = picks > 0;
            }
        }

        void etch(int kinds, int times) {
            boolean more = true;
            for (int i = 0; i < times && more; i++) {
                flood.markOpen(cubes);
                pickExposed(kinds);
                putPicked(0);
                more = picks > 0;
            }
        }

        void turn(int stuff, int other, int times) {
            if (stuff == other) {
                return;
            }
            flood.markOpen(cubes);
            pickExposed(1 << stuff);
            putPicked(other);
            int seen = 0;
            for (int i = 1; i < times && seen < picks; i++) {
                seen = turnBesidePicked(seen, stuff, other);
            }
        }

        void fill(int stuff, int height) {
            flood.markOpen(cubes);
            for (int cube = 0; cube < height * PLACES && cube < CUBES; cube++) {
                if (flood.isMarked(cube)) {
                    cubes[cube] = stuff;
                }
            }
        }

        void flatten(int height) {
            for (int cube = Math.max(0, height * PLACES); cube < CUBES; cube++) {
                cubes[cube] = 0;
            }
        }

        void dropFloating() {
            flood.markStanding(cubes);
            for (int cube = 0; cube < CUBES; cube++) {
                if (!flood.isMarked(cube)) {
                    cubes[cube] = 0;
                }
            }
        }

        private int countMarked(boolean marked, int kinds) {
            int count = 0;
            for (int cube = 0; cube < CUBES; cube++) {
                if (flood.isMarked(cube) == marked && hasKind(kinds, cubes[cube])) {
                    count++;
                }
            }
            return count;
        }

        private void pick(int cube) {
            if (picks < CUBES) {
                picked[picks] = cube;
                picks++;
            }
        }

        private void putPicked(int stuff) {
            for (int i = 0; i < picks && i < CUBES; i++) {
                cubes[picked[i]] = stuff;
            }
        }

        /** Picks the open cubes beside one that is not empty. */
        private void pickSurface() {
            picks = 0;
            for (int cube = 0; cube < CUBES; cube++) {
                if (flood.isMarked(cube) && isBesideStuff(cube)) {
                    pick(cube);
                }
            }
        }

        private void pickExposed(int kinds) {
            picks = 0;
            for (int cube = 0; cube < CUBES; cube++) {
                if (hasKind(kinds, cubes[cube]) && isExposed(cube)) {
                    pick(cube);
                }
            }
        }

        private boolean isBesideStuff(int cube) {
            for (int way = 0; way < WAYS; way++) {
                int next = beside(cube, way);
                if (next != NONE && cubes[next] != 0) {
                    return true;
                }
            }
            return false;
        }

        private boolean isExposed(int cube) {
            if (cube >= CUBES - PLACES) {
                return true;
            }
            for (int way = 0; way < WAYS; way++) {
                int next = beside(cube, way);
                if (next != NONE && flood.isMarked(next)) {
                    return true;
                }
            }
            return false;
        }

        /** Goes on from the cubes picked from seen on, and answers where the new ones begin. */
        private int turnBesidePicked(int seen, int stuff, int other) {
            int end = picks;
            for (int i = seen; i < end && i < CUBES; i++) {
                for (int way = 0; way < WAYS; way++) {
                    int next = beside(picked[i], way);
                    if (next != NONE && cubes[next] == stuff) {
                        cubes[next] = other;
                        pick(next);
                    }
                }
            }
            return end;
        }
    }

    /** The bytes that are fed. */
    private static final class Tape {
        private final int[] bytes = new int[TAPE_MOST];
        private int length = 0;

        void append(int number) {
            for (int i = BYTES_OF_NUMBER - 1; i >= 0 && length < TAPE_MOST; i--) {
                bytes[length] = number >>> 8 * i & 255;
                length++;
            }
        }
    }

    /** Reads the tape token by token; the token at hand has the bytes from 'from' to before 'end'. */
    private static final class Tokens {
        private static final int END = 0;
        private static final int WORD = 1;
        private static final int NUMBER = 2;
        private static final int SIGN = 3;

        private final Tape tape;
        private int kind = END;
        private int from = 0;
        private int end = 0;

        Tokens(Tape tape) {
            this.tape = tape;
        }

        void begin() {
            end = 0;
            next();
        }

        void next() {
            from = end;
            while (from < tape.length && isBlank(tape.bytes[from])) {
                from++;
            }
            end = from;
            kind = END;
            if (from < tape.length) {
                kind = kindOf(tape.bytes[from]);
                end++;
            }
            while (kind != SIGN && end < tape.length && kindOf(tape.bytes[end]) == kind) {
                end++;
            }
        }

        boolean isAtEnd() {
            return kind == END;
        }

        boolean isNumber() {
            return kind == NUMBER;
        }

        boolean isSign(int sign) {
            return kind == SIGN && tape.bytes[from] == sign;
        }

        /** The word of a step, or NONE. */
        int stepWord() {
            for (int word = 0; word < WORDS; word++) {
                if (isWord(nameOf(word))) {
                    return word;
                }
            }
            return NONE;
        }

        /** The stuff that a single letter names, or NONE. */
        int stuff() {
            if (kind != WORD || end - from != 1) {
                return NONE;
            }
            return stuffOf(tape.bytes[from]);
        }

        /** The kinds that unlike letters name, or NONE. */
        int stuffs() {
            if (kind != WORD) {
                return NONE;
            }
            int kinds = 0;
            for (int i = from; i < end; i++) {
                int stuff = stuffOf(tape.bytes[i]);
                if (stuff == NONE || hasKind(kinds, stuff)) {
                    return NONE;
                }
                kinds |= 1 << stuff;
            }
            return kinds;
        }

        /** The value of a number of one or two figures; NONE for a longer one. */
        int value() {
            if (kind != NUMBER || end - from > 2) {
                return NONE;
            }
            int value = 0;
            for (int i = from; i < end; i++) {
                value = 10 * value + tape.bytes[i] - '0';
            }
            return value;
        }

        private boolean isWord(String name) {
            if (kind != WORD || end - from != name.length()) {
                return false;
            }
            for (int i = 0; i < name.length(); i++) {
                if (tape.bytes[from + i] != name.charAt(i)) {
                    return false;
                }
            }
            return true;
        }

        private static int stuffOf(int letter) {
            return letter >= 'a' && letter <= 'g' ? letter - 'a' + 1 : NONE;
        }

        private static boolean isBlank(int sign) {
            return sign == ' ' || sign == '\n';
        }

        private static int kindOf(int sign) {
            if (within(sign, 'a', 'z')) {
                return WORD;
            }
            return within(sign, '0', '9') ? NUMBER : SIGN;
        }
    }

    /** A step of a program, with what its form has. */
    private static final class Step {
        private int word = 0;
        private int firstByte = 0;
        private int stuff = 0;
        private int other = 0;
        private int kinds = 0;
        private int number = 0;
        private int relation = 0;
        // Of a repeat: the step behind its last one.
        private int bodyEnd = 0;
    }

    /** The steps in the order of the text; a fault leaves the tokens at the one that has it. */
    private static final class Program {
        private final Step[] steps = new Step[STEPS_MOST];
        private final int[] openRepeats = new int[REPEATS_MOST];
        private int size = 0;
        private int depth = 0;

        Program() {
            for (int i = 0; i < STEPS_MOST; i++) {
                steps[i] = new Step();
            }
        }

        /** The number of the fault, or 0. */
        int read(Tokens tokens) {
            size = 0;
            depth = 0;
            tokens.begin();
            int fault = 0;
            // Each round takes a token, and a token a byte.
            for (int i = 0; i <= TAPE_MOST && fault == 0 && !tokens.isAtEnd(); i++) {
                fault = depth > 0 && tokens.isSign('}') ? endRepeat(tokens) : readStep(tokens);
            }
            return fault == 0 && depth > 0 ? FAULT_PLACED : fault;
        }

        private int endRepeat(Tokens tokens) {
            depth--;
            steps[openRepeats[depth]].bodyEnd = size;
            tokens.next();
            if (!tokens.isSign(';')) {
                return FAULT_PLACED;
            }
            tokens.next();
            return 0;
        }

        private int readStep(Tokens tokens) {
            int word = tokens.stepWord();
            if (word == NONE) {
                return FAULT_PLACED;
            }
            if (word == REPEAT && depth >= REPEATS_MOST) {
                return FAULT_NESTED;
            }
            if (size >= STEPS_MOST) {
                return FAULT_STEPS;
            }
            Step step = steps[size];
            step.word = word;
            step.firstByte = tokens.from;
            if (word == REPEAT) {
                openRepeats[depth] = size;
                depth++;
            }
            size++;
            tokens.next();
            return readForm(step, formOf(word), tokens);
        }

        private static int readForm(Step step, String form, Tokens tokens) {
            for (int i = 0; i < form.length(); i++) {
                int fault = readPart(step, form.charAt(i), tokens);
                if (fault != 0) {
                    return fault;
                }
                tokens.next();
            }
            return 0;
        }

        private static int readPart(Step step, int part, Tokens tokens) {
            switch (part) {
                case 's':
                    step.stuff = tokens.stuff();
                    return faultUnless(step.stuff != NONE);
                case 't':
                    step.other = tokens.stuff();
                    return faultUnless(step.other != NONE);
                case 'T':
                    step.kinds = tokens.stuffs();
                    return faultUnless(step.kinds != NONE);
                case 'r':
                    step.relation = relationAt(tokens);
                    return faultUnless(step.relation != NONE);
                case 'n':
                    return readNumber(step, tokens, 1, 20);
                case 'h':
                    return readNumber(step, tokens, 0, HEIGHTS);
                case 'k':
                    return readNumber(step, tokens, 0, MASKS - 1);
                case 'w':
                    return readNumber(step, tokens, 0, 99);
                case 'p':
                    return readNumber(step, tokens, 0, 9);
                default:
                    return faultUnless(tokens.isSign(part));
            }
        }

        private static int faultUnless(boolean fits) {
            return fits ? 0 : FAULT_PLACED;
        }

        private static int relationAt(Tokens tokens) {
            if (tokens.isSign('=')) {
                return '=';
            }
            if (tokens.isSign('<')) {
                return '<';
            }
            return tokens.isSign('>') ? '>' : NONE;
        }

        private static int readNumber(Step step, Tokens tokens, int least, int most) {
            if (!tokens.isNumber()) {
                return FAULT_PLACED;
            }
            step.number = tokens.value();
            return within(step.number, least, most) ? 0 : FAULT_NUMBER;
        }
    }

    /** Does the steps of a program. */
    private static final class Runner {
        // Each step done can be a repeat that ends nine rounds: ten turns a step are enough.
        private static final int TURNS_MOST = 20 * DONE_MOST;

        private final Board board;
        private final Works works;
        private final Masks masks;
        private final int[] bodyStarts = new int[REPEATS_MOST];
        private final int[] bodyEnds = new int[REPEATS_MOST];
        private final int[] roundsLeft = new int[REPEATS_MOST];
        private int depth = 0;
        private int next = 0;
        private int mask = NONE;
        private int done = 0;
        private int stepByte = 0;

        Runner(Board board, Works works, Masks masks) {
            this.board = board;
            this.works = works;
            this.masks = masks;
        }

        /** The number by which the program fails, or 0. */
        int perform(Program program) {
            depth = 0;
            next = 0;
            mask = NONE;
            done = 0;
            int failure = 0;
            for (int turn = 0; turn < TURNS_MOST && failure == 0; turn++) {
                if (depth > 0 && next == bodyEnds[depth - 1]) {
                    endRound();
                } else if (next < program.size && next < STEPS_MOST) {
                    failure = take(program.steps[next]);
                } else {
                    return 0;
                }
            }
            return failure;
        }

        private void endRound() {
            roundsLeft[depth - 1]--;
            if (roundsLeft[depth - 1] > 0) {
                next = bodyStarts[depth - 1];
            } else {
                depth--;
            }
        }

        private int take(Step step) {
            stepByte = step.firstByte;
            if (done >= DONE_MOST) {
                return FAIL_STEPS;
            }
            done++;
            next++;
            switch (step.word) {
                case REPEAT:
                    beginRepeat(step);
                    return 0;
                case WANT:
                    return isMet(step) ? 0 : FAIL_WANT;
                case WHOLE:
                    return works.countFloating() == 0 ? 0 : FAIL_WHOLE;
                case MASK:
                    mask = step.number;
                    return 0;
                case BARE:
                    mask = NONE;
                    return 0;
                case COAT:
                    works.coat(step.stuff, step.number);
                    return 0;
                case ETCH:
                    works.etch(step.kinds, step.number);
                    return 0;
                case TURN:
                    works.turn(step.stuff, step.other, step.number);
                    return 0;
                case FILL:
                    works.fill(step.stuff, step.number);
                    return 0;
                case FLAT:
                    works.flatten(step.number);
                    return 0;
                case DROP:
                    works.dropFloating();
                    return 0;
                default:
                    changePlaces(step);
                    return 0;
            }
        }

        private void beginRepeat(Step step) {
            if (step.number == 0) {
                next = step.bodyEnd;
            } else if (depth < REPEATS_MOST) {
                bodyStarts[depth] = next;
                bodyEnds[depth] = step.bodyEnd;
                roundsLeft[depth] = step.number;
                depth++;
            }
        }

        private boolean isMet(Step step) {
            int count = board.count(1 << step.stuff);
            int wanted = 10 * step.number;
            switch (step.relation) {
                case '<':
                    return count < wanted;
                case '>':
                    return count > wanted;
                default:
                    return count == wanted;
            }
        }

        private void changePlaces(Step step) {
            for (int place = 0; place < PLACES; place++) {
                if (mask == NONE || masks.has(mask, place)) {
                    changePlace(step, place);
                }
            }
        }

        private void changePlace(Step step, int place) {
            switch (step.word) {
                case LAY:
                    board.layOn(place, step.stuff, step.number);
                    break;
                case CUT:
                    board.cutDown(place, step.kinds, step.number);
                    break;
                default:
                    board.dopeDown(place, step);
                    break;
            }
        }
    }

    /** The boards ahead of the latest runs, in a ring. */
    private static final class History {
        // One row more than is kept: a run that fails must not have cost the oldest one.
        private static final int ROWS = UNDO_MOST + 1;

        private final int[][] rows = new int[ROWS][CUBES];
        private int row = 0;
        private int kept = 0;

        void note(int[] cubes) {
            System.arraycopy(cubes, 0, rows[row], 0, CUBES);
        }

        void bringBack(int[] cubes) {
            System.arraycopy(rows[row], 0, cubes, 0, CUBES);
        }

        void keepNoted() {
            row = (row + 1) % ROWS;
            kept = Math.min(UNDO_MOST, kept + 1);
        }

        boolean stepBack() {
            if (kept == 0) {
                return false;
            }
            kept--;
            row = (row + ROWS - 1) % ROWS;
            return true;
        }
    }

    /** The places where an order of stuffs is, and how they are joined. */
    private static final class Devices {
        private final Board board;
        private final int[] order = new int[FIGURES_MOST];
        private int orderLength = 0;
        private final boolean[] waiting = new boolean[PLACES];
        private final int[] queue = new int[PLACES];
        private int places = 0;
        private int groups = 0;
        private int least = NONE;
        private int most = 0;

        Devices(Board board) {
            this.board = board;
        }

        /** Whether a number is an order; if so, it is the one that is looked for. */
        boolean takeOrder(int number) {
            if (!within(number, 1, 7777)) {
                return false;
            }
            orderLength = 0;
            for (int unit = 1000; unit > 0; unit /= 10) {
                int figure = number / unit % 10;
                if (number >= unit && !within(figure, 1, STUFFS)) {
                    return false;
                }
                if (number >= unit && orderLength < FIGURES_MOST) {
                    order[orderLength] = figure;
                    orderLength++;
                }
            }
            return true;
        }

        void find() {
            places = 0;
            groups = 0;
            least = NONE;
            most = 0;
            for (int place = PLACES - 1; place >= 0; place--) {
                waiting[place] = isAt(place);
                if (waiting[place]) {
                    places++;
                    least = place;
                }
            }
            for (int place = 0; place < PLACES; place++) {
                if (waiting[place]) {
                    groups++;
                    most = Math.max(most, takeGroup(place));
                }
            }
        }

        private boolean isAt(int place) {
            for (int z = 0; z < HEIGHTS; z++) {
                if (board.beginsSpan(place, z) && beginsAt(place, z)) {
                    return true;
                }
            }
            return false;
        }

        private boolean beginsAt(int place, int low) {
            int z = low;
            for (int i = 0; i < orderLength && i < FIGURES_MOST; i++) {
                if (z >= HEIGHTS || board.cubes[z * PLACES + place] != order[i]) {
                    return false;
                }
                z = board.endOfSpan(place, z);
            }
            return true;
        }

        /** Takes a place and all that are joined to it from those that wait: how many. */
        private int takeGroup(int first) {
            int queued = 1;
            queue[0] = first;
            waiting[first] = false;
            for (int i = 0; i < queued && i < PLACES; i++) {
                for (int way = 0; way < WAYS_OF_PLACES; way++) {
                    int next = beside(queue[i], way);
                    if (next != NONE && waiting[next] && queued < PLACES) {
                        waiting[next] = false;
                        queue[queued] = next;
                        queued++;
                    }
                }
            }
            return queued;
        }
    }
}
