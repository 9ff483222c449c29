import java.util.Arrays;

/** Each promise by itself, with answers worked out by hand: ordinary inputs, edges, wrong inputs. */
final class PromiseTest {
    private static final int NONE = -1, UNKNOWN = -101, OUTSIDE = -102, FULL = -104;

    private PromiseTest() {
    }

    private static void due(String call, long got, long want) {
        Due.due(call, got, want);
    }

    private static void run(Shop shop, String text, int answer, int place) {
        shop.ran(text, answer, place);
    }

    private static void done(Shop shop, String text, int steps) {
        shop.ran(text, steps, NONE);
    }

    public static void main(String[] args) {
        promise1();
        promise2();
        promise3();
        promise4();
        promise5();
        promise6();
        promise7();
        faultsOfPlace();
        faultsOfNumbers();
        faultsOfRepeatsAndSteps();
        tokens();
        failures();
        stepsOfPlaces();
        stepsOfBoard();
        wavesOfTurn();
        allWays();
        allShafts();
        promise8();
        promise9();
        promise10();
        promise11();
        promise12();
        promise13();
        promise14();
        promise15();
        promise16();
        promise17();
        promise18();
        promise19();
        promise20();
        promise21();
        promise22();
        Due.end();
    }

    private static void promise1() {
        Shop x = new Shop();
        for (int place = 0; place < 144; place++) {
            due("at(" + place + ", 0) of a new object", x.at(place, 0), 1);
            due("at(" + place + ", 1) of a new object", x.at(place, 1), 0);
        }
        for (int k = 0; k < 8; k++) {
            Shop y = new Shop();
            for (int place = 0; place < 144; place++) {
                due("masked(" + k + ", " + place + ") of a new object", y.masked(k, place), 0);
            }
        }
        due("volume(0) of a new object", x.volume(0), 2736);
        due("volume(1) of a new object", x.volume(1), 144);
        due("out(0) of a new object", x.out(0), NONE);
        due("place() of a new object", x.place(), NONE);
        due("cut(0) of a new object", x.cut(0), 0);
        due("cut(1) of a new object", x.cut(1), OUTSIDE);
        due("undo() of a new object", x.undo(), 0);
    }

    private static void promise2() {
        Shop x = new Shop();
        due("rect of one place", x.rect(0, 0, 0, 0, 0, true), 1);
        due("rect of the last place", x.rect(0, 11, 11, 11, 11, true), 2);
        due("rect again", x.rect(0, 11, 11, 11, 11, true), 2);
        due("rect 2 wide, 3 high", x.rect(1, 3, 4, 4, 6, true), 6);
        due("rect over it", x.rect(1, 4, 5, 5, 7, true), 10);
        due("rect off", x.rect(1, 0, 5, 11, 5, false), 7);
        due("rect off in an empty mask", x.rect(2, 0, 0, 11, 11, false), 0);
        due("rect of all", x.rect(7, 0, 0, 11, 11, true), 144);
        due("rect of mask 8", x.rect(8, 0, 0, 0, 0, true), UNKNOWN);
        due("rect of mask -1", x.rect(-1, 0, 0, 0, 0, true), UNKNOWN);
        due("rect of mask 8, x too large", x.rect(8, 0, 0, 12, 0, true), UNKNOWN);
        int[][] wrong = {{-1, 0, 0, 0}, {0, -1, 0, 0}, {1, 0, 0, 0}, {0, 1, 0, 0}, {0, 0, 12, 0}, {0, 0, 0, 12},
            {12, 0, 12, 0}, {0, 12, 0, 12}, {Integer.MIN_VALUE, 0, 0, 0}, {0, 0, Integer.MAX_VALUE, 0}};
        for (int[] w : wrong) {
            due("rect with wrong corners", x.rect(3, w[0], w[1], w[2], w[3], true), OUTSIDE);
        }
        due("mask 3 after those", x.rect(3, 0, 0, 0, 0, false), 0);
    }

    private static void promise3() {
        Shop x = new Shop();
        x.rect(5, 2, 3, 4, 3, true);
        int[] in = {38, 39, 40};
        for (int place = 0; place < 144; place++) {
            boolean has = place == in[0] || place == in[1] || place == in[2];
            due("masked(5, " + place + ")", x.masked(5, place), has ? 1 : 0);
        }
        due("masked(4, 38)", x.masked(4, 38), 0);
        due("masked(6, 38)", x.masked(6, 38), 0);
        due("masked(8, 0)", x.masked(8, 0), UNKNOWN);
        due("masked(-1, 0)", x.masked(-1, 0), UNKNOWN);
        due("masked(0, 144)", x.masked(0, 144), UNKNOWN);
        due("masked(0, -1)", x.masked(0, -1), UNKNOWN);
    }

    private static void promise4() {
        Shop x = new Shop();
        due("turned of an empty mask", x.turned(0), 144);
        due("turned of a full mask", x.turned(0), 0);
        x.rect(7, 0, 0, 11, 0, true);
        due("turned(7)", x.turned(7), 132);
        due("masked(7, 11)", x.masked(7, 11), 0);
        due("masked(7, 12)", x.masked(7, 12), 1);
        due("masked(6, 12)", x.masked(6, 12), 0);
        due("turned(8)", x.turned(8), UNKNOWN);
        due("turned(-1)", x.turned(-1), UNKNOWN);
    }

    private static void promise5() {
        Shop x = new Shop();
        for (int i = 1; i <= 30; i++) {
            due("feed " + i, x.feed(i, 0, -1, 0, 0), 20 * i);
        }
        due("feed 31", x.feed(1, 2, 3, 4, 5), FULL);
        due("cut(600) after it", x.cut(600), 0);
        due("cut(581)", x.cut(581), 19);
        due("feed behind 581", x.feed(1, 2, 3, 4, 5), FULL);
        due("cut(580)", x.cut(580), 1);
        due("feed behind 580", x.feed(1, 2, 3, 4, 5), 600);
        Shop y = new Shop();
        // "lay g 2;" and twelve blanks: the order of the bytes is what makes it a program
        due("feed of a program", y.feed(0x6c617920, 0x6720323b, 0x20202020, 0x20202020, 0x20202020), 20);
        due("run() of it", y.run(), 1);
        due("volume(7) after it", y.volume(7), 288);
        // its second half comes behind the first
        due("feed behind it", y.feed(0x6c617920, 0x6620313b, 0x0a0a0a0a, 0x20202020, 0x20202020), 40);
        due("run() of both", y.run(), 2);
        due("volume(7) after both", y.volume(7), 576);
        due("volume(6) after both", y.volume(6), 144);
        due("feed of bytes above 127", y.feed(0xff202020, 0, 0, 0, 0), 60);
        due("run() of them", y.run(), -11);
        due("place() of them", y.place(), 40);
    }

    private static void promise6() {
        Shop x = new Shop();
        x.feed(0x62617265, 0x3b626172, 0x653b2020, 0x20202020, 0x20202020);
        due("cut(20)", x.cut(20), 0);
        due("cut(21)", x.cut(21), OUTSIDE);
        due("cut(-1)", x.cut(-1), OUTSIDE);
        due("run() of bare;bare;", x.run(), 2);
        due("cut(5)", x.cut(5), 15);
        due("run() of bare;", x.run(), 1);
        due("cut(6)", x.cut(6), OUTSIDE);
        due("cut(4)", x.cut(4), 1);
        due("run() of bare", x.run(), -11);
        due("cut(0)", x.cut(0), 4);
        due("run() of nothing", x.run(), 0);
    }

    private static void promise7() {
        Shop x = new Shop();
        done(x, "", 0);
        done(x, "  \n ", 0);
        done(x, "lay b 1;", 1);
        due("run() again: the tape stays", x.run(), 1);
        due("top(0) after two runs", x.top(0), 2);
        done(x, "lay b 1; lay c 1; bare; mask 0; drop; whole; flat 20; want b > 5;", 8);
        done(x, "repeat 0 { lay b 20; };", 1);
        done(x, "repeat 9 {};", 1);
        done(x, "repeat 3 { bare; };", 4);
        done(x, "repeat 3 { bare; repeat 2 { bare; drop; }; }; bare;", 1 + 3 * (1 + 1 + 4) + 1);
        due("top(0) after those", x.top(0), 4);
        Shop y = new Shop();
        y.rect(0, 0, 0, 0, 0, true);
        done(y, "mask 0; lay b 1;", 2);
        done(y, "lay c 1;", 1);
        due("all places are the mask at each beginning", y.volume(3), 144);
        done(y, "mask 1; lay d 5; bare; repeat 2 { lay e 1; mask 0; };", 8);
        due("mask 1 is empty", y.volume(4), 0);
        due("the mask stays from round to round", y.volume(5), 145);
    }

    private static void faultsOfPlace() {
        Shop x = new Shop();
        run(x, "lay", -11, 3);
        run(x, "lay b", -11, 5);
        run(x, "lay b 1", -11, 7);
        run(x, "lay b 1 \n ", -11, 10);
        run(x, "lay b 1;;", -11, 8);
        run(x, ";", -11, 0);
        run(x, "lay b 1, drop;", -11, 7);
        run(x, "  loy b 1;", -11, 2);
        run(x, "Lay b 1;", -11, 0);
        run(x, "lays b 1;", -11, 0);
        run(x, "la b 1;", -11, 0);
        run(x, "drop bare;", -11, 5);
        run(x, "lay h 1;", -11, 4);
        run(x, "lay ab 1;", -11, 4);
        run(x, "lay 1 b;", -11, 4);
        run(x, "lay b b;", -11, 6);
        run(x, "cut abca 1;", -11, 4);
        run(x, "cut abch 1;", -11, 4);
        run(x, "cut 1;", -11, 4);
        run(x, "dope a b 1 ;", -11, 11);
        run(x, "dope a b 1 aa;", -11, 11);
        run(x, "turn a bc 1;", -11, 7);
        run(x, "want a ! 1;", -11, 7);
        run(x, "want a == 1;", -11, 8);
        run(x, "want a 1;", -11, 7);
        run(x, "whole 1;", -11, 6);
        run(x, "mask a;", -11, 5);
        run(x, "repeat { };", -11, 7);
        run(x, "repeat 1 bare; };", -11, 9);
        run(x, "repeat 1 { bare };", -11, 16);
        run(x, "repeat 1 { bare; }", -11, 18);
        run(x, "repeat 1 { bare; } bare;", -11, 19);
        run(x, "repeat 1 { bare;", -11, 16);
        run(x, "bare; }", -11, 6);
        run(x, "repeat 1 { }; };", -11, 14);
        run(x, "lay\tb 1;", -11, 3);
        run(x, "lay b 1;\r", -11, 8);
        run(x, "lay b 1;\0", -11, 8);
        run(x, "lay b 1;\u00e9", -11, 8);
        run(x, "{ bare; };", -11, 0);
        run(x, "lay b -1;", -11, 6);
        due("nothing was done", x.volume(1), 144);
        due("nothing is to be undone", x.undo(), 0);
        misspelt();
    }

    private static void misspelt() {
        String[] steps = {"lay b 1;", "cut b 1;", "dope b c 1 b;", "coat b 1;", "etch b 1;", "turn b c 1;", "fill b 1;", "flat 9;",
            "drop;", "mask 1;", "bare;", "want b = 0;", "whole;", "repeat 1 {};"};
        for (String step : steps) {
            Shop x = new Shop();
            int length = step.replaceAll("[^a-z].*", "").length();
            for (int i = 0; i < length; i++) {
                run(x, step.substring(0, i) + "x" + step.substring(i + 1), -11, 0);
            }
            run(x, "x" + step, -11, 0);
            run(x, step.substring(0, length) + "x" + step.substring(length), -11, 0);
            run(x, step.substring(1), -11, 0);
            due("nothing was done", x.volume(1), 144);
            due("nothing is to be undone", x.undo(), 0);
        }
    }

    private static void faultsOfNumbers() {
        Shop x = new Shop();
        run(x, "lay b 0;", -12, 6);
        run(x, "lay b 00;", -12, 6);
        run(x, "lay b 21;", -12, 6);
        run(x, "lay b 001;", -12, 6);
        run(x, "lay b 99999999999999999999;", -12, 6);
        run(x, "lay 001 1;", -11, 4);
        run(x, "100", -11, 0);
        run(x, "cut a 0;", -12, 6);
        run(x, "cut a 21;", -12, 6);
        run(x, "dope a b 0 a;", -12, 9);
        run(x, "dope a b 21 a;", -12, 9);
        run(x, "coat a 0;", -12, 7);
        run(x, "coat a 21;", -12, 7);
        run(x, "etch b 0;", -12, 7);
        run(x, "etch b 21;", -12, 7);
        run(x, "turn a b 0;", -12, 9);
        run(x, "turn a b 21;", -12, 9);
        run(x, "fill a 21;", -12, 7);
        run(x, "flat 21;", -12, 5);
        run(x, "mask 8;", -12, 5);
        run(x, "mask 08;", -12, 5);
        run(x, "want a = 100;", -12, 9);
        run(x, "repeat 10 {};", -12, 7);
        run(x, "lay b 1; lay b 0; lay b", -12, 15);
        done(x, "fill b 0; flat 20; mask 0; mask 07; mask 7; want b < 99; want b = 0; repeat 9 {}; repeat 00 {};", 9);
        done(x, "cut g 20; cut g 1; dope g g 20 g; etch g 20; turn g f 20;", 5);
    }

    private static void faultsOfRepeatsAndSteps() {
        Shop x = new Shop();
        done(x, "repeat 1{repeat 1{repeat 1{repeat 1{bare;};};};};", 5);
        run(x, "repeat 1{repeat 1{repeat 1{repeat 1{repeat 1{bare;};};};};};", -13, 36);
        run(x, "repeat 1{repeat 1{repeat 1{repeat 1{repeat", -13, 36);
        done(x, "repeat 1{repeat 1{repeat 1{repeat 1{};};};repeat 1{repeat 1{};};};", 6);
        String sixty = "bare;".repeat(60);
        done(x, sixty, 60);
        run(x, sixty + "bare;", -14, 300);
        run(x, sixty + " repeat 1 {};", -14, 301);
        run(x, sixty + "bore;", -11, 300);
        run(x, sixty + "}", -11, 300);
        run(x, "repeat 1{" + "bare;".repeat(60) + "};", -14, 9 + 59 * 5);
        done(x, "repeat 1{" + "bare;".repeat(59) + "};", 60);
        String deep = "repeat 1{repeat 1{repeat 1{repeat 1{";
        run(x, deep + "bare;".repeat(56) + "bare;", -14, 36 + 280);
        run(x, deep + "bare;".repeat(56) + "repeat 1{", -13, 36 + 280);
        run(x, "bare;".repeat(59) + "repeat 1{drop;", -14, 295 + 9);
        run(x, "bare;".repeat(61) + "lay 9", -14, 300);
    }

    private static void tokens() {
        Shop x = new Shop();
        done(x, "lay b1;lay\nc\n2\n;", 2);
        due("volume(2)", x.volume(2), 144);
        due("volume(3)", x.volume(3), 288);
        done(x, "want b>9;want c<99;want b>14;dope c d 1c;want d<15;want d>14;", 6);
        done(x, "repeat2{lay e 01;};cut edcba 20;cut a1;", 5);
        due("volume(10)", x.volume(10), 0);
        run(x, "lay b 1 2;", -11, 8);
        run(x, "cut a b 1;", -11, 6);
        run(x, "layb 1;", -11, 0);
        run(x, "lay b 1;9", -11, 8);
    }

    private static void failures() {
        Shop x = new Shop();
        done(x, "want a > 14; want a < 15;", 2);
        run(x, "want a = 14;", -21, 0);
        run(x, "lay b 5; want b = 71;", -21, 9);
        run(x, "lay b 5; want b < 72;", -21, 9);
        run(x, "lay b 5; want b > 72;", -21, 9);
        done(x, "lay b 5; want b = 72; cut b 5; want b = 0;", 4);
        due("volume(2)", x.volume(2), 0);
        x.rect(0, 7, 7, 7, 7, true);
        run(x, "mask 0; lay b 1; lay c 1; etch b 1;\n whole;", -22, 37);
        due("volume(10) after it failed", x.volume(10), 144);
        due("one run to undo", x.undo() + 10 * x.undo(), 1 + 10);
        due("two runs were done", x.undo(), 0);
        // 300 steps are none too many, 301 are
        done(x, "repeat 9{repeat 9{lay b 1;cut b 1;};bare;};" + "bare;".repeat(19) + "repeat 9{repeat 9{};};" + "bare;".repeat(9), 1 + 9 * (1 + 18 + 1) + 19 + 10 + 9);
        done(x, "repeat 9{" + "bare;".repeat(33) + "};bare;bare;", 300);
        run(x, "repeat 9{" + "bare;".repeat(33) + "};bare;drop; lay b 1;", -23, 9 + 165 + 2 + 11);
        run(x, "repeat 9{" + "bare;".repeat(33) + "};bare;bare;want a = 0;", -23, 9 + 165 + 2 + 10);
        run(x, "repeat 9{" + "bare;".repeat(33) + "};bare;want a = 0;", -21, 9 + 165 + 2 + 5);
        run(x, "lay b 1;repeat 9{repeat 9{repeat 9{repeat 9{};};};};", -23, 35);
        due("top(0) after it failed", x.top(0), 0);
        due("the two done before", x.undo() + 10 * x.undo() + 100 * x.undo(), 11);
        // a failure within a repeat leaves nothing to the next run
        run(x, "repeat 3{repeat 3{lay b 1; want b = 0;};};", -21, 27);
        done(x, "lay c 1;repeat 2{lay d 1;};", 4);
        due("volume(2)", x.volume(2), 0);
        due("volume(4)", x.volume(4), 288);
    }

    private static void stepsOfPlaces() {
        Shop x = new Shop();
        x.rect(0, 0, 0, 0, 0, true);
        x.rect(1, 1, 0, 1, 0, true);
        // lay: as far as there are any
        done(x, "mask 0; lay b 18; lay c 5; lay d 1;", 4);
        due("at(0, 18)", x.at(0, 18), 2);
        due("at(0, 19)", x.at(0, 19), 3);
        due("top(1)", x.top(1), 0);
        // cut: from the top, only what is of the set, at most n
        done(x, "mask 0; cut b 3; cut bd 1;", 3);
        due("top(0): c is not of the set", x.top(0), 19);
        done(x, "mask 0; cut cb 3;", 2);
        due("top(0) after cut cb 3", x.top(0), 16);
        done(x, "mask 0; cut b 20;", 2);
        due("cut stops at a", x.top(0), 0);
        done(x, "mask 0; cut a 1; cut a 1;", 3);
        due("top(0) of an empty place", x.top(0), NONE);
        done(x, "mask 0; lay e 1;", 2);
        due("lay begins at height 0", x.at(0, 0), 5);
        // cut goes on below a hole
        done(x, "mask 1; lay b 1; lay c 1; lay d 1;", 4);
        done(x, "etch c 1; cut bd 2;", 2);
        due("top(1) below the hole", x.top(1), 0);
        // dope: counts what is gone through, stops at what is neither
        done(x, "mask 1; lay b 2; lay c 1; lay b 2; lay d 1; lay c 1;", 6);
        done(x, "mask 1; dope b e 20 c;", 2);
        due("d stops it", x.volume(5), 1);
        done(x, "mask 1; dope b e 3 cd;", 2);
        due("at(1, 5) is the third", x.at(1, 5), 5);
        due("at(1, 4) is the fourth", x.at(1, 4), 2);
        done(x, "mask 1; dope b e 20 cde;", 2);
        due("at(1, 4)", x.at(1, 4), 5);
        due("at(1, 1)", x.at(1, 1), 5);
        due("at(1, 3) is gone through", x.at(1, 3), 3);
        done(x, "mask 1; dope c g 1 d;", 2);
        due("at(1, 7)", x.at(1, 7), 7);
        due("at(1, 3)", x.at(1, 3), 3);
        // an empty cube stops dope, too
        Shop y = new Shop();
        y.rect(0, 7, 7, 7, 7, true);
        done(y, "mask 0; lay b 1; lay c 1; lay b 1; etch c 1; dope b d 20 abc;", 6);
        due("above the hole", y.at(91, 3), 4);
        due("below the hole", y.at(91, 1), 2);
    }

    private static void stepsOfBoard() {
        // a tower of 2 by 2 with a roof: masks do not matter to coat, etch, turn, fill
        Shop x = new Shop();
        x.rect(0, 5, 5, 6, 6, true);
        x.rect(1, 4, 4, 7, 7, true);
        done(x, "mask 0; lay b 3; coat c 1;", 3);
        due("coat: above 140 places, above 4, beside 3 heights of 8, of which the lowest are above a place", x.volume(3), 140 + 4 + 2 * 8);
        due("at(65, 4)", x.at(65, 4), 3);
        due("at(64, 3)", x.at(64, 3), 3);
        due("at(64, 2)", x.at(64, 2), 3);
        due("at(52, 2): only a corner is beside it", x.at(52, 2), 0);
        done(x, "coat d 2;", 1);
        due("coat twice goes two up", x.at(0, 3), 4);
        due("coat twice goes no further", x.at(0, 4), 0);
        Shop y = Shop.after("coat b 20;");
        due("coat to the height of the board", y.volume(2), 2736);
        done(y, "etch b 1;", 1);
        due("etch from height 19, once", y.volume(0), 144);
        done(y, "etch ab 20;", 1);
        due("etch: 19 heights are left and go", y.volume(10), 0);
        done(y, "lay a 20; etch b 20; etch a 20;", 3);
        due("etch a height each time, all 20", y.volume(10), 0);
        done(y, "coat a 20;", 1);
        due("nothing to coat", y.volume(10), 0);
        caves();
    }

    private static void caves() {
        // a pipe of d under a roof of c: it becomes a cave when etched from one end, and the end is closed
        Shop x = new Shop();
        x.rect(0, 0, 0, 11, 0, true);
        x.rect(1, 0, 0, 0, 0, true);
        done(x, "lay b 1; mask 0; cut b 1; lay d 1; bare; lay c 1;", 6);
        due("d has no open cube beside it", x.volume(8), 144 * 17);
        done(x, "etch d 20;", 1);
        due("so etch does nothing", x.volume(4), 12);
        done(x, "mask 1; cut c 1; bare; etch d 5;", 4);
        due("etch five deep", x.volume(4), 7);
        due("the pipe is open", x.volume(8), 144 * 17 + 1 + 5);
        due("no cave yet", x.volume(11), 0);
        done(x, "mask 1; lay g 2;", 2);
        due("the place above a of it is filled: the cave", x.volume(11), 4);
        due("volume(0)", x.volume(0), 2880 - 144 * 3 + 4);
        done(x, "coat e 1; etch d 20;", 2);
        due("a cave is not coated", x.volume(11), 4);
        due("a cave does not etch", x.volume(4), 7);
        done(x, "fill f 20;", 1);
        due("a cave is not filled", x.volume(0), 4);
        done(x, "flat 2;", 1);
        due("flat opens it", x.volume(11), 0);
        due("flat keeps heights 0 and 1", x.volume(10), 288 - 4);
        done(x, "fill e 1;", 1);
        due("fill below height 1: nothing is empty there", x.volume(5), 0);
        done(x, "fill e 2;", 1);
        due("fill below height 2", x.volume(5), 4);
        done(x, "fill f 0; flat 20;", 2);
        due("fill 0 and flat 20 do nothing", x.volume(10), 288);
        done(x, "flat 0;", 1);
        due("flat 0", x.volume(10), 0);
        done(x, "fill g 20;", 1);
        due("fill 20", x.volume(7), 2880);
        // drop: corners do not hold
        Shop y = new Shop();
        y.rect(0, 0, 0, 0, 0, true);
        y.rect(1, 0, 0, 1, 0, true);
        done(y, "mask 1; lay b 1; lay c 1; bare; etch b 1; drop;", 6);
        due("both float and drop", y.volume(3), 0);
        done(y, "mask 1; lay b 1; lay c 1; mask 0; cut c 1; lay d 1; lay c 1; bare; etch b 2; drop; whole;", 11);
        due("nothing stands above the hole", y.volume(10), 144);
        done(y, "mask 1; lay c 1; mask 0; lay b 1; lay c 1;", 5);
        done(y, "mask 1; lay c 1; etch b 1; drop; whole;", 5);
        due("only what was above b is gone, its neighbour stands", y.volume(3), 3);
    }

    private static void wavesOfTurn() {
        Shop x = new Shop();
        done(x, "lay b 9; turn b c 1;", 2);
        due("turn once", x.volume(3), 144);
        due("at(0, 9)", x.at(0, 9), 3);
        done(x, "lay d 1; turn b c 1;", 2);
        due("b is beside no open cube, and no c came by this step", x.volume(3), 144);
        done(x, "cut d 1; turn c b 1; turn b c 3;", 3);
        due("turn three times: three heights", x.volume(3), 432);
        due("at(0, 7)", x.at(0, 7), 3);
        due("at(0, 6)", x.at(0, 6), 2);
        done(x, "turn b b 20; turn c c 2;", 2);
        due("into itself", x.volume(2), 864);
        Shop y = Shop.after("lay b 20; turn b c 1;");
        due("turn at height 19", y.volume(3), 144);
        done(y, "turn b d 20;", 1);
        due("turn below height 19: none is beside an open one", y.volume(4), 0);
        // the wave goes sideways and down, at once
        Shop z = new Shop();
        z.rect(0, 1, 0, 11, 11, true);
        z.rect(0, 0, 1, 0, 11, true);
        done(z, "lay b 2; mask 0; lay d 1; bare; turn b c 3;", 5);
        due("from one cube three times: 1, and 3 beside it, and what is left of those two away", z.volume(3), 1 + 3 + 5);
        due("at(0, 1)", z.at(0, 1), 3);
        due("at(2, 2)", z.at(2, 2), 3);
        due("at(3, 2)", z.at(3, 2), 2);
        due("a stays", z.at(0, 0), 1);
    }

    /** From each place the wave of turn goes to the places beside it and to no others. */
    private static void allWays() {
        for (int place = 0; place < 144; place++) {
            Shop x = new Shop();
            int px = place % 12;
            int py = place / 12;
            x.rect(0, px, py, px, py, true);
            done(x, "lay b 2; lay d 1; mask 0; cut d 1; turn b c 2;", 5);
            for (int other = 0; other < 144; other++) {
                int far = Math.abs(other % 12 - px) + Math.abs(other / 12 - py);
                due("at(" + other + ", 2) of a wave from " + place, x.at(other, 2), far < 2 ? 3 : 2);
                due("at(" + other + ", 1) of a wave from " + place, x.at(other, 1), far < 1 ? 3 : 2);
            }
            due("device(34, 0) of the wave", x.device(34, 0), x.volume(3) - 2);
            done(x, "turn c b 20; turn b e 20; turn b f 20;", 3);
            due("all that is joined turns but what is too far", x.volume(5) + x.volume(2), 288);
            due("nothing turns without an open one", x.volume(6), 0);
        }
    }

    /** At each place a shaft between full ones, and then a tower between empty ones. */
    private static void allShafts() {
        for (int place = 0; place < 144; place++) {
            Shop x = new Shop();
            x.rect(0, place % 12, place / 12, place % 12, place / 12, true);
            done(x, "cut a 1; lay b 20; mask 0; cut b 20;", 4);
            due("open in the shaft at " + place, x.volume(8), 20);
            due("nets(2) beside the shaft", x.nets(2), 1);
            done(x, "fill c 19;", 1);
            due("filled", x.at(place, 0) * 100 + x.at(place, 18) * 10 + x.at(place, 19), 330);
            due("net(0, 4, 0)", x.net(0, 4, 0), place);
            due("net(0, 4, 1)", x.net(0, 4, 1), 19);
            due("net(0, 4, 3)", x.net(0, 4, 3), 18);
            done(x, "etch c 20; coat d 1;", 2);
            due("coated from height 0 on", x.volume(4), 20);
            due("thin(4, 20)", x.thin(4, 20), NONE);
            done(x, "etch b 20;", 1);
            due("a tower", x.volume(10) * 100 + x.volume(4), 2020);
            due("net(0, 8, 3)", x.net(0, 8, 3), 19);
            due("net(0, 8, 4)", x.net(0, 8, 4), 1);
            due("device(4, 1)", x.device(4, 1), 1);
            due("device(4, 2)", x.device(4, 2), place);
            due("device(4, 3)", x.device(4, 3), 1);
            due("device(44, 0)", x.device(44, 0), 0);
            due("the tower stands", x.volume(9), 0);
            done(x, "mask 0; cut d 19; coat e 1;", 3);
            due("coat at height 0", x.at(place, 1) * 10 + x.at(place, 0), 54);
            due("net(0, 8, 0)", x.net(0, 8, 0), place);
            due("nets(8)", x.nets(8), 1);
            due("netOf(place, 0, 8)", x.netOf(place, 0, 8), 0);
        }
    }

    private static void promise8() {
        Shop x = new Shop();
        due("place() ahead of any run", x.place(), NONE);
        run(x, "lay b 1; oops", -11, 9);
        x.undo();
        x.cut(0);
        x.feed(0, 0, 0, 0, 0);
        due("place() is of the latest run", x.place(), 9);
        done(x, "lay b 1;", 1);
        run(x, " \n repeat 2 {\n want a = 1; };", -21, 15);
        run(x, "repeat 2 { cut a 1; want a = 0; cut b 1; want a > 14; };", -21, 20);
        run(x, "", 0, NONE);
    }

    private static void promise9() {
        Shop x = new Shop();
        for (int i = 1; i <= 8; i++) {
            done(x, "lay b 1;", 1);
        }
        run(x, "lay b 1; want a = 0;", -21, 9);
        run(x, "lay b", -11, 5);
        for (int i = 1; i <= 6; i++) {
            due("undo() " + i, x.undo(), 1);
            due("top(0) after undo " + i, x.top(0), 8 - i);
        }
        due("undo() 7", x.undo(), 0);
        due("top(0) after it", x.top(0), 2);
        done(x, "lay c 1;", 1);
        done(x, "lay d 1;", 1);
        due("undo d", x.undo(), 1);
        done(x, "lay e 1;", 1);
        due("undo e", x.undo(), 1);
        due("at(0, 3)", x.at(0, 3), 3);
        due("top(0)", x.top(0), 3);
        due("undo c", x.undo(), 1);
        due("top(0)", x.top(0), 2);
        due("no more", x.undo(), 0);
        x.rect(0, 0, 0, 3, 3, true);
        done(x, "", 0);
        due("an empty program was run", x.undo(), 1);
        due("the masks stay", x.masked(0, 0), 1);
        due("no more", x.undo(), 0);
        // a run that fails costs none of six
        Shop y = new Shop();
        for (int i = 0; i < 6; i++) {
            done(y, "lay b 1;", 1);
        }
        for (int i = 0; i < 3; i++) {
            run(y, "lay c 1; whole; want c = 0;", -21, 16);
        }
        for (int i = 0; i < 6; i++) {
            due("undo() " + i, y.undo(), 1);
        }
        due("digest() is as at first", y.digest(), new Shop().digest());
        due("undo()", y.undo(), 0);
    }

    private static void promise10() {
        Shop x = new Shop();
        x.rect(0, 11, 11, 11, 11, true);
        x.rect(1, 3, 2, 3, 2, true);
        done(x, "mask 0; lay g 19; mask 1; lay f 1;", 4);
        due("at(143, 19)", x.at(143, 19), 7);
        due("at(27, 1)", x.at(27, 1), 6);
        due("at(27, 2)", x.at(27, 2), 0);
        due("at(142, 19)", x.at(142, 19), 0);
        due("at(0, 20)", x.at(0, 20), UNKNOWN);
        due("at(0, -1)", x.at(0, -1), UNKNOWN);
        due("at(144, 0)", x.at(144, 0), UNKNOWN);
        due("at(-1, 0)", x.at(-1, 0), UNKNOWN);
    }

    private static void promise11() {
        Shop x = new Shop();
        x.rect(0, 0, 0, 5, 11, true);
        done(x, "mask 0; cut a 1;", 2);
        due("top(0)", x.top(0), NONE);
        due("top(6)", x.top(6), 0);
        done(x, "lay b 3;", 1);
        due("top(0)", x.top(0), 2);
        due("top(143)", x.top(143), 3);
        done(x, "lay b 20;", 1);
        due("top(0)", x.top(0), 19);
        due("top(144)", x.top(144), UNKNOWN);
        due("top(-1)", x.top(-1), UNKNOWN);
    }

    private static void promise12() {
        Shop x = new Shop();
        x.rect(0, 0, 0, 11, 0, true);
        x.rect(1, 0, 0, 0, 0, true);
        done(x, "lay b 1; mask 0; cut b 1; lay d 1; bare; lay c 1; mask 1; cut c 1; bare; etch d 20; mask 1; lay e 1; lay f 1; lay g 1;", 14);
        int[] want = {2880 - 144 - 132 - 143 - 3, 144, 132, 143, 0, 1, 1, 1};
        for (int what = 0; what < 8; what++) {
            due("volume(" + what + ")", x.volume(what), want[what]);
        }
        due("volume(10)", x.volume(10), 144 + 132 + 143 + 3);
        due("volume(11): eleven under the roof", x.volume(11), 11);
        due("volume(8)", x.volume(8), want[0] - 11);
        due("volume(9)", x.volume(9), 0);
        due("volume(12)", x.volume(12), OUTSIDE);
        due("volume(-1)", x.volume(-1), OUTSIDE);
        Shop y = Shop.after("lay b 20;");
        due("volume(8) of a full board", y.volume(8), 0);
        due("volume(0) of a full board", y.volume(0), 0);
        floating();
    }

    private static void floating() {
        Shop x = new Shop();
        x.rect(0, 0, 0, 1, 0, true);
        x.rect(1, 2, 0, 2, 0, true);
        done(x, "mask 0; lay b 1; lay c 2; etch b 1;", 4);
        due("volume(9): two by two without b", x.volume(9), 4);
        done(x, "mask 1; lay d 2;", 2);
        due("volume(9): d holds them", x.volume(9), 0);
        done(x, "mask 1; cut d 1;", 2);
        due("volume(9): a corner does not hold", x.volume(9), 4);
        due("volume(10)", x.volume(10), 144 + 4 + 1);
    }

    private static void promise13() {
        Shop x = new Shop();
        x.rect(0, 4, 4, 4, 4, true);
        done(x, "mask 0; lay b 2; lay c 1; lay b 3; lay e 1; bare; etch c 1;", 7);
        int[][] spans = {{1, 1, 0}, {2, 2, 1}, {0, 1, 3}, {2, 3, 4}, {5, 1, 7}};
        due("span(52, NONE, 9)", x.span(52, NONE, 9), 5);
        for (int i = 0; i < 5; i++) {
            for (int what = 0; what < 3; what++) {
                due("span(52, " + i + ", " + what + ")", x.span(52, i, what), spans[i][what]);
            }
        }
        due("span(52, 5, 0)", x.span(52, 5, 0), UNKNOWN);
        due("span(52, 5, 7)", x.span(52, 5, 7), UNKNOWN);
        due("span(52, -2, 0)", x.span(52, -2, 0), UNKNOWN);
        due("span(52, 4, 3)", x.span(52, 4, 3), OUTSIDE);
        due("span(52, 0, -1)", x.span(52, 0, -1), OUTSIDE);
        due("span(144, NONE, 0)", x.span(144, NONE, 0), UNKNOWN);
        due("span(-1, 0, 7)", x.span(-1, 0, 7), UNKNOWN);
        done(x, "mask 0; cut abe 20;", 2);
        due("span(52, NONE, 0) of an empty place", x.span(52, NONE, 0), 0);
        due("span(52, 0, 0) of an empty place", x.span(52, 0, 0), UNKNOWN);
        done(x, "mask 0; lay b 1; lay c 19; bare; etch b 1;", 5);
        due("span(52, 0, 0): b is beside a alone", x.span(52, 0, 0), 2);
        done(x, "etch a 1; etch b 1;", 2);
        due("span(52, 0, 0): empty from below", x.span(52, 0, 0), 0);
        due("span(52, 1, 1) up to height 19", x.span(52, 1, 1), 19);
        due("span(52, NONE, 0)", x.span(52, NONE, 0), 2);
    }

    private static void promise14() {
        Shop x = new Shop();
        x.rect(0, 0, 1, 11, 11, true);
        done(x, "lay b 2; mask 0; lay c 1; lay b 1;", 4);
        due("thin(2, 1)", x.thin(2, 1), NONE);
        due("thin(2, 2): the upper span of place 12", x.thin(2, 2), 12);
        due("thin(2, 3)", x.thin(2, 3), 0);
        due("thin(3, 1)", x.thin(3, 1), NONE);
        due("thin(3, 2)", x.thin(3, 2), 12);
        due("thin(4, 20)", x.thin(4, 20), NONE);
        due("thin(1, 20)", x.thin(1, 20), 0);
        due("thin(0, 5)", x.thin(0, 5), OUTSIDE);
        due("thin(8, 5)", x.thin(8, 5), OUTSIDE);
        due("thin(1, 0)", x.thin(1, 0), OUTSIDE);
        due("thin(1, 21)", x.thin(1, 21), OUTSIDE);
        Shop y = Shop.after("cut a 1; lay g 20;");
        due("thin(7, 20): it is 20 high", y.thin(7, 20), NONE);
    }

    /** Two bars of b along y, at x 2 and at x 4, and over a part of them c at height 2. */
    private static Shop bars() {
        Shop x = new Shop();
        x.rect(0, 2, 0, 2, 11, true);
        x.rect(1, 4, 3, 4, 8, true);
        x.rect(2, 2, 5, 4, 5, true);
        done(x, "mask 0; lay b 1; mask 1; lay b 1; mask 2; lay c 1;", 6);
        return x;
    }

    private static void promise15() {
        Shop x = bars();
        due("nets(2)", x.nets(2), 2);
        due("nets(4): at place 63 c lies lower than at 62 and 64", x.nets(4), 3);
        due("nets(6)", x.nets(6), 1);
        due("nets(3)", x.nets(3), 1);
        due("nets(127)", x.nets(127), 1);
        due("nets(64)", x.nets(64), 0);
        due("nets(0)", x.nets(0), 0);
        due("nets(128)", x.nets(128), OUTSIDE);
        due("nets(-1)", x.nets(-1), OUTSIDE);
        Shop y = new Shop();
        for (int i = 0; i < 12; i++) {
            for (int j = i % 2; j < 12; j += 2) {
                y.rect(0, j, i, j, i, true);
            }
        }
        done(y, "mask 0; lay b 1; lay c 1;", 3);
        due("nets(6): as on a chess board, corners do not join", y.nets(6), 72);
    }

    private static void promise16() {
        Shop x = bars();
        due("netOf(2, 1, 2)", x.netOf(2, 1, 2), 0);
        due("netOf(134, 1, 2)", x.netOf(134, 1, 2), 0);
        due("netOf(40, 1, 2)", x.netOf(40, 1, 2), 1);
        due("netOf(63, 1, 4): the lowest c", x.netOf(63, 1, 4), 0);
        due("netOf(62, 2, 4)", x.netOf(62, 2, 4), 1);
        due("netOf(64, 2, 4)", x.netOf(64, 2, 4), 2);
        due("netOf(64, 2, 2): not of the set", x.netOf(64, 2, 2), NONE);
        due("netOf(0, 5, 127): empty", x.netOf(0, 5, 127), NONE);
        due("netOf(0, 0, 0)", x.netOf(0, 0, 0), NONE);
        due("netOf(144, 0, 1)", x.netOf(144, 0, 1), UNKNOWN);
        due("netOf(-1, 0, 1)", x.netOf(-1, 0, 1), UNKNOWN);
        due("netOf(0, 20, 1)", x.netOf(0, 20, 1), UNKNOWN);
        due("netOf(0, -1, 128)", x.netOf(0, -1, 128), UNKNOWN);
        due("netOf(0, 0, 128)", x.netOf(0, 0, 128), OUTSIDE);
        due("netOf(0, 0, -1)", x.netOf(0, 0, -1), OUTSIDE);
    }

    private static void promise17() {
        Shop x = bars();
        int[][] nets = {{146, 12, 1, 1, 12}, {184, 6, 1, 1, 6}};
        for (int what = 0; what < 5; what++) {
            due("net(0, 2, " + what + ")", x.net(0, 2, what), nets[0][what]);
            due("net(1, 2, " + what + ")", x.net(1, 2, what), nets[1][what]);
        }
        int[] both = {146, 12 + 6 + 3, 1, 2, 12 + 6 + 1};
        for (int what = 0; what < 5; what++) {
            due("net(0, 6, " + what + ")", x.net(0, 6, what), both[what]);
        }
        due("net(0, 127, 0)", x.net(0, 127, 0), 0);
        due("net(0, 127, 4)", x.net(0, 127, 4), 144);
        due("net(2, 2, 0)", x.net(2, 2, 0), UNKNOWN);
        due("net(-1, 2, 0)", x.net(-1, 2, 0), UNKNOWN);
        due("net(2, 2, 5)", x.net(2, 2, 5), UNKNOWN);
        due("net(0, 0, 5)", x.net(0, 0, 5), UNKNOWN);
        due("net(1, 2, 5)", x.net(1, 2, 5), OUTSIDE);
        due("net(1, 2, -1)", x.net(1, 2, -1), OUTSIDE);
        due("net(9, 128, 0)", x.net(9, 128, 0), OUTSIDE);
        due("net(0, -1, 0)", x.net(0, -1, 0), OUTSIDE);
    }

    private static void promise18() {
        Shop x = bars();
        due("joined(2, 26, 2)", x.joined(2, 26, 2), 1);
        due("joined(2, 40, 2)", x.joined(2, 40, 2), 0);
        due("joined(2, 40, 6)", x.joined(2, 40, 6), 1);
        due("joined(2, 2, 2)", x.joined(2, 2, 2), 1);
        due("joined(2, 2, 4): not of the set", x.joined(2, 2, 4), 0);
        due("joined(2, 62, 2): the top of 62 is c", x.joined(2, 62, 2), 0);
        due("joined(62, 64, 4)", x.joined(62, 64, 4), 0);
        due("joined(0, 2, 127)", x.joined(0, 2, 127), 1);
        done(x, "mask 1; cut abc 20;", 2);
        due("joined(40, 2, 127): no top", x.joined(40, 2, 127), 0);
        due("joined(2, 40, 127): no top", x.joined(2, 40, 127), 0);
        due("joined(40, 40, 127): no top", x.joined(40, 40, 127), 0);
        due("joined(144, 0, 1)", x.joined(144, 0, 1), UNKNOWN);
        due("joined(0, -1, 200)", x.joined(0, -1, 200), UNKNOWN);
        due("joined(40, 0, 128)", x.joined(40, 0, 128), OUTSIDE);
        due("joined(0, 0, -1)", x.joined(0, 0, -1), OUTSIDE);
    }

    private static void promise19() {
        Shop x = bars();
        int[][] want = {{12, 0, 18}, {12, 1, 2}, {12, 2, 2}, {12, 3, 12}, {123, 0, 2}, {123, 1, 2}, {123, 2, 62}, {123, 3, 1},
            {13, 0, 1}, {13, 2, 63}, {1, 0, 144}, {1, 1, 1}, {1, 3, 144}, {23, 0, 2},
            {321, 0, 0}, {321, 1, 0}, {321, 2, NONE}, {321, 3, 0}, {1123, 0, 0}};
        for (int[] w : want) {
            due("device(" + w[0] + ", " + w[1] + ")", x.device(w[0], w[1]), w[2]);
        }
        // an empty span comes between; the second of two ways to begin fits; four stuffs
        Shop y = new Shop();
        y.rect(0, 0, 0, 11, 1, true);
        done(y, "mask 0; lay b 1; lay c 2; lay b 3; lay c 1; lay d 1; bare;", 7);
        due("device(234, 0)", y.device(234, 0), 24);
        due("device(2323, 0)", y.device(2323, 0), 24);
        due("device(1232, 3)", y.device(1232, 3), 24);
        due("device(3234, 0)", y.device(3234, 0), 24);
        due("device(24, 0)", y.device(24, 0), 0);
        due("device(33, 0): like ones are one span", y.device(33, 0), 0);
        done(y, "etch b 20;", 1);
        due("device(13, 0): empty between", y.device(13, 0), 0);
        due("device(34, 0)", y.device(34, 0), 24);
        due("device(3, 2)", y.device(3, 2), 0);
        int[] wrong = {0, -1, -12, 8, 9, 10, 18, 81, 102, 120, 1208, 8111, 7778, 11111, 12345, 77777, Integer.MAX_VALUE, Integer.MIN_VALUE};
        for (int order : wrong) {
            due("device(" + order + ", 0)", y.device(order, 0), OUTSIDE);
        }
        due("device(1, 4)", y.device(1, 4), OUTSIDE);
        due("device(1, -1)", y.device(1, -1), OUTSIDE);
        due("device(7, 2)", y.device(7, 2), NONE);
        due("device(7777, 0)", y.device(7777, 0), 0);
        due("device(1111, 0)", y.device(1111, 0), 0);
        Shop full = Shop.after("lay b 20;");
        due("device(12, 0) up to height 19", full.device(12, 0), 144);
        due("device(121, 0) beyond height 19", full.device(121, 0), 0);
        // joined around corners: leftwards, and back upwards
        Shop u = new Shop();
        u.rect(0, 0, 2, 4, 2, true);
        u.rect(0, 4, 0, 4, 2, true);
        u.rect(0, 1, 0, 1, 2, true);
        done(u, "mask 0; lay g 1;", 2);
        due("device(7, 1)", u.device(7, 1), 1);
        due("device(7, 3)", u.device(7, 3), 9);
        // the edge of a row does not join the next row
        Shop z = new Shop();
        z.rect(0, 11, 0, 11, 0, true);
        z.rect(0, 0, 1, 0, 1, true);
        done(z, "mask 0; lay g 1;", 2);
        due("device(7, 1)", z.device(7, 1), 2);
        due("device(7, 2)", z.device(7, 2), 11);
    }

    private static void promise20() {
        Shop x = new Shop();
        x.rect(0, 3, 0, 3, 11, true);
        x.rect(1, 0, 5, 11, 5, true);
        done(x, "mask 0; lay b 2; mask 1; lay c 1;", 4);
        due("section(0, 5)", x.section(0, 5), 260);
        String[] along = {"aaaaaaaaaaaa\n", "cccbcccccccc\n", "...b........\n", "...c........\n", "............\n"};
        for (int z = 0; z < 5; z++) {
            page(x, 13 * (19 - z), along[z]);
        }
        due("section(1, 3)", x.section(1, 3), 260);
        String[] across = {"aaaaaaaaaaaa\n", "bbbbbbbbbbbb\n", "bbbbbbbbbbbb\n", ".....c......\n", "............\n"};
        for (int z = 0; z < 5; z++) {
            page(x, 13 * (19 - z), across[z]);
        }
        due("section(0, 0)", x.section(0, 0), 260);
        page(x, 13 * 17, "...b........\n...b........\naaaaaaaaaaaa\n");
        done(x, "lay d 1; etch a 1; bare;", 3);
        done(x, "flat 5; lay g 1; etch b 20;", 3);
        due("section(1, 3)", x.section(1, 3), 260);
        page(x, 13 * 17, "bbbbbbbbbbbb\nbbbbbbbbbbbb\naaaaaaaaaaaa\n");
        int[][] wrong = {{2, 0}, {-1, 0}, {0, 12}, {0, -1}, {1, 12}};
        for (int[] w : wrong) {
            due("section(" + w[0] + ", " + w[1] + ")", x.section(w[0], w[1]), OUTSIDE);
        }
        page(x, 13 * 17, "bbbbbbbbbbbb\n");
        closedCubes();
    }

    private static void closedCubes() {
        Shop x = new Shop();
        x.rect(0, 0, 0, 11, 0, true);
        x.rect(1, 0, 0, 0, 0, true);
        done(x, "lay b 1; mask 0; cut b 1; lay d 1; bare; lay c 1; mask 1; cut c 1; bare; etch d 3;", 10);
        due("section(0, 0)", x.section(0, 0), 260);
        page(x, 13 * 17, ".ccccccccccc\n...ddddddddd\naaaaaaaaaaaa\n");
        done(x, "mask 1; lay g 1;", 2);
        x.section(0, 0);
        page(x, 13 * 17, ".ccccccccccc\ng--ddddddddd\naaaaaaaaaaaa\n");
    }

    private static void page(Shop shop, int from, String text) {
        for (int i = 0; i < text.length(); i++) {
            due("out(" + (from + i) + ") of a section", shop.out(from + i), text.charAt(i));
        }
    }

    private static void promise21() {
        Shop x = new Shop();
        due("out(0)", x.out(0), NONE);
        due("section(0, 12)", x.section(0, 12), OUTSIDE);
        due("out(0) after it", x.out(0), NONE);
        x.section(1, 11);
        due("out(0)", x.out(0), '.');
        due("out(12)", x.out(12), 10);
        due("out(258)", x.out(258), 'a');
        due("out(259)", x.out(259), 10);
        due("out(260)", x.out(260), NONE);
        due("out(-1)", x.out(-1), NONE);
        due("out(least)", x.out(Integer.MIN_VALUE), NONE);
        done(x, "lay b 19;", 1);
        due("out(0): the board is another, THE OUT is not", x.out(0), '.');
        x.undo();
        due("out(259) after undo", x.out(259), 10);
    }

    private static void promise22() {
        Shop x = new Shop();
        int[] cubes = new int[2880];
        Arrays.fill(cubes, 0, 144, 1);
        due("digest()", x.digest(), digestOf(cubes));
        x.rect(0, 11, 11, 11, 11, true);
        done(x, "mask 0; lay g 19;", 2);
        for (int z = 1; z < 20; z++) {
            cubes[144 * z + 143] = 7;
        }
        due("digest()", x.digest(), digestOf(cubes));
        x.rect(1, 1, 0, 4, 3, true);
        done(x, "mask 1; lay e 3; cut e 1; lay c 1;", 4);
        for (int y = 0; y < 4; y++) {
            for (int i = 1; i < 5; i++) {
                cubes[144 + 12 * y + i] = 5;
                cubes[288 + 12 * y + i] = 5;
                cubes[432 + 12 * y + i] = 3;
            }
        }
        due("digest()", x.digest(), digestOf(cubes));
        done(x, "flat 0;", 1);
        due("digest() of nothing", x.digest(), digestOf(new int[2880]));
    }

    private static int digestOf(int[] cubes) {
        int d = 7;
        for (int cube : cubes) {
            d = 31 * d + cube;
        }
        return d;
    }
}
