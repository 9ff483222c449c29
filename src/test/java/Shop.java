import java.util.ArrayList;
import java.util.List;

/**
 * A LayerShop and the calls that were made on it: by name, so that a wrong answer can be told,
 * and kept, so that they can be made again on another object.
 */
final class Shop {
    static final int NONE = -1, UNKNOWN = -101, OUTSIDE = -102, FULL = -104;
    /** What later calls answer is free: no test may look at it. */
    static final int CALLS_MOST = 512;

    interface Call {
        int on(LayerShop shop);
    }

    private static String latest = "";

    private final LayerShop shop = new LayerShop();
    private final List<Call> calls = new ArrayList<>();
    private String text = "";

    /** The name of the latest call of all shops. */
    static String latestCall() {
        return latest;
    }

    List<Call> calls() {
        return new ArrayList<>(calls);
    }

    int call(String name, Call call) {
        latest = name;
        calls.add(call);
        if (calls.size() == CALLS_MOST + 1) {
            Due.due("calls on one object, the latest " + name, calls.size(), CALLS_MOST);
        }
        return call.on(shop);
    }

    /** How many calls are left until what is answered is free. */
    int callsLeft() {
        return CALLS_MOST - calls.size();
    }

    // ---- the calls

    int rect(int k, int x0, int y0, int x1, int y1, boolean on) {
        return call(named("rect", k, x0, y0, x1, y1) + (on ? " on" : " off"), s -> s.rect(k, x0, y0, x1, y1, on));
    }

    int masked(int k, int place) {
        return call(named("masked", k, place), s -> s.masked(k, place));
    }

    int turned(int k) {
        return call(named("turned", k), s -> s.turned(k));
    }

    int feed(int a, int b, int c, int d, int e) {
        return call(named("feed", a, b, c, d, e), s -> s.feed(a, b, c, d, e));
    }

    int cut(int n) {
        return call(named("cut", n), s -> s.cut(n));
    }

    int run() {
        return call("run() of [" + text + "]", LayerShop::run);
    }

    int place() {
        return call("place() after [" + text + "]", LayerShop::place);
    }

    int undo() {
        return call("undo()", LayerShop::undo);
    }

    int at(int place, int z) {
        return call(named("at", place, z), s -> s.at(place, z));
    }

    int top(int place) {
        return call(named("top", place), s -> s.top(place));
    }

    int volume(int what) {
        return call(named("volume", what), s -> s.volume(what));
    }

    int span(int place, int i, int what) {
        return call(named("span", place, i, what), s -> s.span(place, i, what));
    }

    int thin(int stuff, int n) {
        return call(named("thin", stuff, n), s -> s.thin(stuff, n));
    }

    int nets(int set) {
        return call(named("nets", set), s -> s.nets(set));
    }

    int netOf(int place, int z, int set) {
        return call(named("netOf", place, z, set), s -> s.netOf(place, z, set));
    }

    int net(int i, int set, int what) {
        return call(named("net", i, set, what), s -> s.net(i, set, what));
    }

    int joined(int place, int other, int set) {
        return call(named("joined", place, other, set), s -> s.joined(place, other, set));
    }

    int device(int order, int what) {
        return call(named("device", order, what), s -> s.device(order, what));
    }

    int section(int axis, int where) {
        return call(named("section", axis, where), s -> s.section(axis, where));
    }

    int out(int i) {
        return call(named("out", i), s -> s.out(i));
    }

    int digest() {
        return call("digest() after [" + text + "]", LayerShop::digest);
    }

    // ---- what tests make of them

    /** Puts a text behind the tape; the last twenty bytes are filled with blanks that are cut off again. */
    void put(String more, int before) {
        byte[] bytes = Due.bytesOf(more);
        for (int[] f : Due.feedsOf(bytes)) {
            feed(f[0], f[1], f[2], f[3], f[4]);
        }
        int blanks = (20 - bytes.length % 20) % 20;
        Due.due("cut(" + (before + bytes.length) + ") of the blanks behind [" + more + "]", cut(before + bytes.length), blanks);
        text = before == 0 ? more : text + more;
    }

    /** Puts a text alone on the tape. */
    void tape(String alone) {
        cut(0);
        put(alone, 0);
    }

    /** Runs a text alone, and looks at the answers of run() and place(). */
    void ran(String program, int answer, int byteOf) {
        tape(program);
        Due.due(latestName("run"), run(), answer);
        Due.due(latestName("place"), place(), byteOf);
    }

    private String latestName(String call) {
        return call + "() of [" + text + "]";
    }

    /** A program that is done: its steps done are asked, and that no byte is told. */
    void done(String program, int steps) {
        ran(program, steps, NONE);
    }

    /** A program with a fault: nothing is done. */
    void fault(String program, int number, int byteOf) {
        int before = digest();
        ran(program, -10 - number, byteOf);
        Due.due("digest() after the fault of [" + program + "]", digest(), before);
    }

    /** A program that fails: it is undone as a whole. */
    void fails(String program, int number, int byteOf) {
        int before = digest();
        ran(program, -20 - number, byteOf);
        Due.due("digest() after the failure of [" + program + "]", digest(), before);
    }

    /** A new one after a program that is done. */
    static Shop after(String program) {
        Shop shop = new Shop();
        shop.tape(program);
        Due.due("run() of [" + program + "] has no fault", shop.run() >= 0 ? 1 : 0, 1);
        return shop;
    }

    /** A mask becomes just these places. */
    void only(int k, int... places) {
        rect(k, 0, 0, 11, 11, false);
        for (int p : places) {
            rect(k, p % 12, p / 12, p % 12, p / 12, true);
        }
    }

    /** A mask becomes all places but these. */
    void allBut(int k, int... places) {
        only(k, places);
        turned(k);
    }

    private static String named(String name, int... numbers) {
        StringBuilder call = new StringBuilder(name).append('(');
        for (int i = 0; i < numbers.length; i++) {
            call.append(i == 0 ? "" : ", ").append(numbers[i]);
        }
        return call.append(')').toString();
    }
}
