/** Long runs of calls on the program and on SlowShop; each answer is held against the other. */
final class ModelTest {
    private static long seed = 20240229;
    private static Shop shop;
    private static SlowShop slow;
    private static int faults = 0;
    private static int failures = 0;
    private static int successes = 0;

    private ModelTest() {
    }

    private static int upTo(int n) {
        seed = seed * 6364136223846793005L + 1442695040888963407L;
        return (int) ((seed >>> 33) % (n + 1));
    }

    private static String one(String... choices) {
        return choices[upTo(choices.length - 1)];
    }

    private static String letter() {
        return upTo(60) == 0 ? one("h", "ab", "A", "4", "", ";") : "" + (char) ('a' + upTo(upTo(1) == 0 ? 6 : 2));
    }

    private static String letters() {
        if (upTo(60) == 0) {
            return one("aa", "abz", "abcdefga", "h", "7", "");
        }
        StringBuilder all = new StringBuilder("abcdefg");
        StringBuilder some = new StringBuilder();
        for (int n = upTo(upTo(1) == 0 ? 6 : 3); n >= 0; n--) {
            int i = upTo(all.length() - 1);
            some.append(all.charAt(i));
            all.deleteCharAt(i);
        }
        return some.toString();
    }

    private static String number(int least, int most) {
        if (upTo(80) == 0) {
            return one("0", "00", "001", "100", "" + (most + 1), "x", "", "-1", "20", "21", "99");
        }
        int n = least + upTo(upTo(2) > 0 && most - least > 3 ? 3 : most - least);
        return (upTo(20) == 0 && n < 10 ? "0" : "") + n;
    }

    private static String step(int depth) {
        switch (upTo(depth < 3 ? 15 : 13)) {
            case 0: case 1: return "lay " + letter() + " " + number(1, 20);
            case 2: return "cut " + letters() + " " + number(1, 20);
            case 3: return "dope " + letter() + " " + letter() + " " + number(1, 20) + " " + letters();
            case 4: return "coat " + letter() + number(1, 20);
            case 5: return "etch " + letters() + " " + number(1, 20);
            case 6: return "turn " + letter() + " " + letter() + " " + number(1, 20);
            case 7: return "fill " + letter() + " " + number(0, 20);
            case 8: return upTo(2) == 0 ? "flat " + number(0, 20) : "flat " + number(15, 20);
            case 9: return upTo(3) == 0 ? "drop" : "mask " + number(0, 7);
            case 10: case 11: return "mask " + number(0, 7);
            case 12: return one("bare", "bare", "whole");
            case 13: return upTo(2) == 0 ? "want " + letter() + one("=", "<", ">", "=", "!") + number(0, 99) : "want " + letter() + " > 0";
            default: return "repeat " + number(0, 9) + " {" + program(depth + 1, 2) + "}";
        }
    }

    private static String program(int depth, int most) {
        StringBuilder text = new StringBuilder();
        for (int n = upTo(most); n >= 0; n--) {
            text.append(step(depth));
            text.append(upTo(150) == 0 ? one("", ";;", "}", " }; ", "{", "\t;") : one(";", "; ", " ;\n", ";"));
        }
        return text.toString();
    }

    private static String oddText() {
        switch (upTo(5)) {
            case 0: return "repeat 1{".repeat(upTo(6)) + "bare;" + "};".repeat(upTo(6));
            case 1: return "bare;".repeat(50 + upTo(9)) + "repeat 9{bare;".repeat(upTo(2)) + "};".repeat(upTo(2));
            case 2: return "repeat " + upTo(9) + "{repeat 9{lay b 1;drop;repeat 3{};}; flat 3;};".substring(0, 30 + upTo(13));
            case 3: return "drop;".repeat(58) + one("}", "drop", "lay 7;", "repeat 0 {}") + ";drop;drop;drop;";
            case 4: return "repeat 9{".repeat(3) + "repeat " + upTo(9) + "{};};};};";
            default: return "";
        }
    }

    /** Holds the answer of the latest call against what is due. */
    private static void same(int got, int want) {
        Due.due(Shop.latestCall(), got, want);
    }

    private static void fresh() {
        shop = new Shop();
        slow = new SlowShop();
        for (int k = 0; k < 8; k++) {
            // odd numbers of masks are scattered, the even ones are of few figures
            for (int n = k % 2 == 0 ? upTo(2) : 8 + upTo(4); n >= 0; n--) {
                int x = upTo(11);
                int y = upTo(11);
                int x1 = x + upTo(Math.min(k % 2 == 0 ? 11 : 4, 11 - x));
                int y1 = y + upTo(Math.min(k % 2 == 0 ? 11 : 4, 11 - y));
                boolean on = k % 2 == 0 || upTo(2) > 0;
                same(shop.rect(k, x, y, x1, y1, on), slow.rect(k, x, y, x1, y1, on));
            }
        }
    }

    private static void runText(String text) {
        String most = text.length() > 600 ? text.substring(0, 600) : text;
        shop.tape(most);
        slow.cut(0);
        for (int[] f : Due.feedsOf(Due.bytesOf(most))) {
            slow.feed(f);
        }
        slow.cut(most.length());
        int got = shop.run();
        same(got, slow.run());
        same(shop.place(), slow.place());
        same(shop.digest(), slow.digest());
        if (got < -20) {
            failures++;
        } else if (got < -10) {
            faults++;
        } else {
            successes++;
        }
    }

    private static void askBoard() {
        int place = upTo(143);
        int set = upTo(3) == 0 ? upTo(129) - 1 : 1 << upTo(6) | 1 << upTo(6);
        int z = upTo(6) == 0 ? upTo(23) - 2 : upTo(8);
        int order = upTo(2) == 0 ? upTo(8000) : upTo(1) == 0 ? 1 + upTo(6) : 10 * (1 + upTo(6)) + 1 + upTo(6);
        int what = upTo(13) - 1;
        same(shop.volume(what), slow.volume(what));
        for (int i = 0; i < 8; i++) {
            int p = upTo(10) == 0 ? upTo(150) - 3 : upTo(143);
            int part = upTo(4) - 1;
            int s = upTo(7) - 1;
            same(shop.at(p, z), slow.at(p, z));
            same(shop.top(p), slow.top(p));
            same(shop.span(p, s, part), slow.span(p, s, part));
            int high = i + upTo(5);
            same(shop.thin(s, high), slow.thin(s, high));
        }
        same(shop.nets(set), slow.nets(set));
        same(shop.netOf(place, z, set), slow.netOf(place, z, set));
        int net = upTo(3) - 1;
        int part = upTo(6) - 1;
        same(shop.net(net, set, part), slow.net(net, set, part));
        int other = upTo(144);
        same(shop.joined(place, other, set), slow.joined(place, other, set));
        int ask = upTo(4);
        same(shop.device(order, ask), slow.device(order, ask));
    }

    private static void askPage() {
        int axis = upTo(8) == 0 ? upTo(3) - 1 : upTo(1);
        int where = upTo(13) - 1;
        same(shop.section(axis, where), slow.section(axis, where));
        for (int i = -1; i <= 260; i++) {
            same(shop.out(i), slow.out(i));
        }
    }

    private static void askMasks() {
        int k = upTo(9) - 1;
        int p = upTo(145) - 1;
        same(shop.masked(k, p), slow.masked(k, p));
        if (upTo(3) == 0) {
            same(shop.turned(k), slow.turned(k));
        }
        int[] v = {upTo(13) - 1, upTo(13) - 1, upTo(13) - 1, upTo(13) - 1};
        boolean on = upTo(2) > 0;
        same(shop.rect(k, v[0], v[1], v[2], v[3], on), slow.rect(k, v[0], v[1], v[2], v[3], on));
    }

    private static void undoSome() {
        for (int undo = upTo(4) == 0 ? upTo(7) : 0; undo > 0; undo--) {
            same(shop.undo(), slow.undo());
            same(shop.digest(), slow.digest());
            same(shop.place(), slow.place());
        }
    }

    /** Goes on with one object as long as its answers are promised. */
    private static void round() {
        fresh();
        // a text of 600 bytes, its run, the questions and seven undos
        while (shop.callsLeft() >= 35 + 38 + 3 + 21) {
            runText(upTo(9) == 0 ? oddText() : program(0, upTo(8)));
            askBoard();
            askMasks();
            undoSome();
        }
    }

    /** A cross-cut and each of its bytes are half of the calls that an object has. */
    private static void pageRound() {
        fresh();
        while (shop.callsLeft() >= 35 + 263) {
            runText(program(0, upTo(8)));
        }
        askPage();
    }

    public static void main(String[] args) {
        for (int i = 0; i < 80; i++) {
            round();
            pageRound();
        }
        System.out.println(successes + " programs done, " + failures + " failed, " + faults + " with a fault");
        Due.end();
    }
}
