import java.util.ArrayList;
import java.util.List;

/** After a refused call nothing has changed: all that can be asked is asked of two objects, one with the call and one without. */
final class EdgesOfRefusals {
    private static final int NONE = Shop.NONE, UNKNOWN = Shop.UNKNOWN, OUTSIDE = Shop.OUTSIDE, FULL = Shop.FULL;
    private static final int LEAST = Integer.MIN_VALUE, MOST = Integer.MAX_VALUE;
    private static final int QUESTIONS = 8;

    /** What led to a state, and what is answered in it, by the kind of question. */
    private static List<Shop.Call> before;
    private static List<List<Integer>> answers;

    private EdgesOfRefusals() {
    }

    static void all() {
        String rule = "Calls answer, the first of these that fits: UNKNOWN (no such PLACE, MASK, CUBE, NET, SPAN), "
            + "OUTSIDE (another number out of its bounds), STATE (as told), FULL;";
        Edges.sentence("Terms 4", rule, EdgesOfRefusals::firstThatFits);
        Edges.sentence("Terms 4", "then nothing changes.", EdgesOfRefusals::nothingChangesInAUsedObject);
        Edges.sentence("Terms 4", "then nothing changes.", EdgesOfRefusals::nothingChangesInANewObject);
        Edges.sentence("Terms 4", "then nothing changes.", EdgesOfRefusals::nothingChangesWhenAllIsFull);
        Edges.sentence("Promise 7", "(nothing is done then)", EdgesOfRefusals::faultsChangeThePlaceAlone);
        Edges.sentence("Terms 3", "is undone as a whole.", EdgesOfRefusals::failuresChangeThePlaceAlone);
    }

    private static void is(int got, int want) {
        Edges.is(got, want);
    }

    private static void firstThatFits() {
        Shop x = new Shop();
        // UNKNOWN ahead of OUTSIDE
        is(x.rect(8, -1, 0, 12, 0, true), UNKNOWN);
        is(x.rect(-1, 5, 5, 4, 4, true), UNKNOWN);
        is(x.span(144, 0, 3), UNKNOWN);
        is(x.span(0, 1, 3), UNKNOWN);
        is(x.span(0, 1, -1), UNKNOWN);
        is(x.netOf(144, 0, 128), UNKNOWN);
        is(x.netOf(0, 20, 128), UNKNOWN);
        is(x.netOf(0, -1, -1), UNKNOWN);
        is(x.joined(144, 0, 128), UNKNOWN);
        is(x.joined(0, -1, -1), UNKNOWN);
        is(x.net(1, 1, 5), UNKNOWN);
        is(x.net(-1, 1, -1), UNKNOWN);
        // but the set of net ahead of UNKNOWN
        is(x.net(1, 128, 0), OUTSIDE);
        is(x.net(-1, -1, 5), OUTSIDE);
        // each by itself
        is(x.rect(0, 12, 0, 12, 0, true), OUTSIDE);
        is(x.span(0, 0, 3), OUTSIDE);
        is(x.netOf(0, 0, 128), OUTSIDE);
        is(x.joined(0, 0, 128), OUTSIDE);
        is(x.net(0, 1, 5), OUTSIDE);
        is(x.device(0, 4), OUTSIDE);
        x.put(" ".repeat(600), 0);
        is(x.feed(0, 0, 0, 0, 0), FULL);
        Due.due("UNKNOWN", LayerShop.UNKNOWN, -101);
        Due.due("OUTSIDE", LayerShop.OUTSIDE, -102);
        Due.due("STATE", LayerShop.STATE, -103);
        Due.due("FULL", LayerShop.FULL, -104);
    }

    // ---- two objects

    private static LayerShop again(List<Shop.Call> calls) {
        LayerShop shop = new LayerShop();
        for (Shop.Call call : calls) {
            call.on(shop);
        }
        return shop;
    }

    /** Everything of one kind that can be asked of an object, which is not used any further. */
    private static List<Integer> ask(LayerShop s, int question, boolean withPlace) {
        List<Integer> got = new ArrayList<>();
        if (question < 4) {
            for (int place = 0; place < 144; place++) {
                got.add(s.masked(2 * question, place));
                got.add(s.masked(2 * question + 1, place));
            }
        } else if (question == 4) {
            for (int place = 0; place < 144; place++) {
                got.add(s.top(place));
            }
            for (int what = 0; what < 12; what++) {
                got.add(s.volume(what));
            }
            got.add(s.digest());
        } else if (question == 5) {
            for (int i = -1; i <= 260; i++) {
                got.add(s.out(i));
            }
        } else if (question == 6) {
            got.add(withPlace ? s.place() : NONE);
            got.add(s.run());
            got.add(s.place());
            got.add(s.digest());
            got.add(s.cut(601));
            got.add(s.cut(0));
        } else {
            for (int i = 0; i < 8; i++) {
                got.add(s.undo());
                got.add(s.digest());
            }
        }
        return got;
    }

    private static void from(Shop x) {
        before = x.calls();
        // a call, and up to 288 questions, come behind these
        Due.due("calls that led to the state", Math.min(before.size(), Shop.CALLS_MOST - 289), before.size());
        answers = new ArrayList<>();
        for (int question = 0; question < QUESTIONS; question++) {
            answers.add(ask(again(before), question, true));
        }
    }

    /** A call in the state that was begun 'from', its answer, and all that is asked behind it. */
    private static void leaves(String name, int answer, boolean withPlace, Shop.Call call) {
        for (int question = 0; question < QUESTIONS; question++) {
            LayerShop shop = again(before);
            Due.due(name, call.on(shop), answer);
            List<Integer> want = new ArrayList<>(answers.get(question));
            if (question == 6 && !withPlace) {
                want.set(0, NONE);
            }
            Due.due(name + " has changed nothing of kind " + question, ask(shop, question, withPlace).equals(want) ? 1 : 0, 1);
        }
    }

    private static void refused(String name, int answer, Shop.Call call) {
        leaves(name, answer, true, call);
    }

    private static final int[] NO_MASKS = {-1, 8, LEAST, MOST};
    private static final int[] NO_PLACES = {-1, 144, LEAST, MOST};
    private static final int[] NO_SETS = {-1, 128, LEAST, MOST};

    private static void allRefused(int tapeLength) {
        for (int k : NO_MASKS) {
            refused("rect on of mask " + k, UNKNOWN, s -> s.rect(k, 0, 0, 11, 11, true));
            refused("rect off of mask " + k, UNKNOWN, s -> s.rect(k, 0, 0, 11, 11, false));
            refused("masked of mask " + k, UNKNOWN, s -> s.masked(k, 0));
            refused("turned of mask " + k, UNKNOWN, s -> s.turned(k));
        }
        for (int no : new int[] {-1, 12, LEAST, MOST}) {
            for (boolean on : new boolean[] {true, false}) {
                refused("rect with x0 " + no, OUTSIDE, s -> s.rect(0, no, 0, 11, 11, on));
                refused("rect with y0 " + no, OUTSIDE, s -> s.rect(1, 0, no, 11, 11, on));
                refused("rect with x1 " + no, OUTSIDE, s -> s.rect(5, 0, 0, no, 11, on));
                refused("rect with y1 " + no, OUTSIDE, s -> s.rect(7, 0, 0, 11, no, on));
            }
            refused("section at " + no, OUTSIDE, s -> s.section(0, no));
            refused("section of axis " + (no == 12 ? 2 : no), OUTSIDE, s -> s.section(no == 12 ? 2 : no, 5));
        }
        for (boolean on : new boolean[] {true, false}) {
            refused("rect with x0 above x1", OUTSIDE, s -> s.rect(0, 6, 0, 5, 11, on));
            refused("rect with y0 above y1", OUTSIDE, s -> s.rect(0, 0, 6, 11, 5, on));
        }
        for (int n : new int[] {-1, tapeLength + 1, 601, LEAST, MOST}) {
            refused("cut(" + n + ")", OUTSIDE, s -> s.cut(n));
        }
        questionsRefused();
    }

    private static void questionsRefused() {
        for (int no : NO_PLACES) {
            refused("masked of place " + no, UNKNOWN, s -> s.masked(0, no));
            refused("at of place " + no, UNKNOWN, s -> s.at(no, 0));
            refused("top of place " + no, UNKNOWN, s -> s.top(no));
            refused("span of place " + no, UNKNOWN, s -> s.span(no, NONE, 0));
            refused("netOf of place " + no, UNKNOWN, s -> s.netOf(no, 0, 1));
            refused("joined of place " + no, UNKNOWN, s -> s.joined(no, 0, 1));
            refused("joined with place " + no, UNKNOWN, s -> s.joined(0, no, 1));
        }
        for (int set : NO_SETS) {
            refused("nets of set " + set, OUTSIDE, s -> s.nets(set));
            refused("netOf of set " + set, OUTSIDE, s -> s.netOf(0, 0, set));
            refused("net of set " + set, OUTSIDE, s -> s.net(0, set, 0));
            refused("joined of set " + set, OUTSIDE, s -> s.joined(0, 1, set));
            refused("device of order " + set, OUTSIDE, s -> s.device(set, 0));
        }
        for (int no : new int[] {-1, 20, LEAST, MOST}) {
            refused("at of height " + no, UNKNOWN, s -> s.at(0, no));
            refused("netOf of height " + no, UNKNOWN, s -> s.netOf(0, no, 127));
            refused("net " + no + " of none", UNKNOWN, s -> s.net(no, 0, 0));
            refused("span " + (no == -1 ? -2 : no), UNKNOWN, s -> s.span(143, no == -1 ? -2 : no, 0));
            refused("what of span " + no, OUTSIDE, s -> s.span(143, 0, no));
            refused("what of net " + no, OUTSIDE, s -> s.net(0, 127, no));
            refused("what of volume " + no, OUTSIDE, s -> s.volume(no));
            refused("what of device " + no, OUTSIDE, s -> s.device(1, no));
            refused("stuff of thin " + no, OUTSIDE, s -> s.thin(no, 5));
            refused("n of thin " + (no == 20 ? 21 : no), OUTSIDE, s -> s.thin(1, no == 20 ? 21 : no));
        }
        refused("byte -1", NONE, s -> s.out(-1));
        refused("byte 260", NONE, s -> s.out(260));
    }

    /** Masks of all kinds, eight runs, one of them undone, a failure, a cross-cut, and a program on the tape. */
    private static Shop used() {
        Shop x = new Shop();
        x.rect(0, 2, 2, 9, 9, true);
        x.rect(1, 0, 0, 3, 3, true);
        x.turned(1);
        x.rect(4, 5, 0, 5, 11, true);
        x.rect(5, 11, 11, 11, 11, true);
        x.turned(7);
        x.rect(7, 4, 4, 6, 6, false);
        String[] runs = {"lay b 1;", "mask 0; lay c 2;", "coat d 1;", "mask 4; cut dcb 3;", "mask 7; dope d e 1 a;", "turn e f 2;", "etch f 1;", "fill g 3;"};
        for (String run : runs) {
            x.tape(run);
            is(x.run() < 0 ? 1 : 0, 0);
        }
        is(x.undo(), 1);
        is(x.section(0, 5), 260);
        x.fails("lay a 2; mask 0; want g = 0; want a = 0;", 1, 29);
        x.tape("mask 7; lay e 2; repeat 3 { lay f 1; mask 5; }; coat b 1;");
        return x;
    }

    private static void nothingChangesInAUsedObject() {
        Shop x = used();
        from(x);
        allRefused(57);
        questionsChangeNothing();
    }

    /** What is answered well does not change anything either, but for what is told. */
    private static void questionsChangeNothing() {
        int digest = again(before).digest();
        leaves("digest()", digest, true, LayerShop::digest);
        leaves("place()", 29, true, LayerShop::place);
        leaves("cut(57)", 0, true, s -> s.cut(57));
        leaves("masked(1, 0)", 0, true, s -> s.masked(1, 0));
        leaves("netOf of an empty cube", NONE, true, s -> s.netOf(0, 19, 127));
        leaves("device of none", 0, true, s -> s.device(7777, 1));
        leaves("thin of none", NONE, true, s -> s.thin(1, 1));
        leaves("rect off of an empty mask", 0, true, s -> s.rect(2, 0, 0, 11, 11, false));
        leaves("nets of none", 0, true, s -> s.nets(0));
        leaves("net 0 of all, its lowest height", 0, true, s -> s.net(0, 127, 2));
        leaves("joined with itself", 1, true, s -> s.joined(0, 0, 127));
    }

    private static void nothingChangesInANewObject() {
        from(new Shop());
        allRefused(0);
        refused("undo()", 0, LayerShop::undo);
        refused("cut(0)", 0, s -> s.cut(0));
        refused("out(0)", NONE, s -> s.out(0));
        refused("place()", NONE, LayerShop::place);
    }

    private static void nothingChangesWhenAllIsFull() {
        for (int length : new int[] {581, 590, 599, 600}) {
            Shop x = new Shop();
            x.turned(0);
            x.done("lay b 20; coat c 20;", 2);
            x.section(1, 0);
            x.tape("mask 0; cut b 5; lay c 4;" + " ".repeat(length - 25));
            from(x);
            refused("feed behind " + length + " bytes", FULL, s -> s.feed(0, 1, 2, 3, 4));
            refused("feed of blanks behind " + length + " bytes", FULL, s -> s.feed(0x20202020, 0x20202020, 0x20202020, 0x20202020, 0x20202020));
            refused("cut behind " + length + " bytes", OUTSIDE, s -> s.cut(length + 1));
            refused("rect of a full mask", OUTSIDE, s -> s.rect(0, 0, 0, 12, 11, false));
            refused("turned of no mask", UNKNOWN, s -> s.turned(8));
            refused("section of no axis", OUTSIDE, s -> s.section(2, 0));
        }
    }

    /** A state with a program on the tape whose run is not done: but for the byte told, it is as if it had not been run. */
    private static void runLeaves(String program, int answer) {
        Shop x = used();
        x.tape(program);
        from(x);
        leaves("run() of [" + program + "]", answer, false, LayerShop::run);
    }

    private static void faultsChangeThePlaceAlone() {
        runLeaves("lay b 2; mask 3; flat 0; oops;", -11);
        runLeaves("lay b 2; flat 21;", -12);
        runLeaves("flat 0;" + "repeat 1{".repeat(5), -13);
        runLeaves("flat 0;".repeat(61), -14);
    }

    private static void failuresChangeThePlaceAlone() {
        runLeaves("lay b 2; mask 3; flat 0; fill g 9; want a > 0;", -21);
        runLeaves("flat 1; mask 5; lay a 1; lay b 1; lay c 1; etch b 1; whole;", -22);
        runLeaves("flat 0; repeat 9 { repeat 9 { lay b 1; cut b 1; fill c 1; flat 0; }; };", -23);
    }
}
