/** Runs, what fails them, and their undoing: the end of Terms 3, promises 7 and 9. */
final class EdgesOfRuns {
    private static final int NONE = Shop.NONE;
    private static final int FAIL_WANT = 1, FAIL_WHOLE = 2, FAIL_STEPS = 3;
    /** 298 and 299 steps done. */
    private static final String MANY = "repeat 9{" + "bare;".repeat(33) + "};";
    private static final String MORE = MANY + "bare;";

    private EdgesOfRuns() {
    }

    private static void is(int got, int want) {
        Edges.is(got, want);
    }

    static void all() {
        Edges.sentence("Terms 3", "STEPS DONE: each step that is done, repeat too each time it comes (not its rounds);", EdgesOfRuns::stepsDone);
        Edges.sentence("Terms 3", "beyond 300 the program FAILS at that step (3).", EdgesOfRuns::beyondThreeHundred);
        Edges.sentence("Terms 3", "A program that FAILS (1 want, 2 whole, 3 too many steps) is undone as a whole.", EdgesOfRuns::undoneAsAWhole);
        Edges.sentence("Promise 7", "THE TAPE is run as a program (it stays): STEPS DONE;", EdgesOfRuns::tapeStays);
        Edges.sentence("Promise 7", "-10 less the number of its FAULT (nothing is done then);", EdgesOfRuns::faultDoesNothing);
        Edges.sentence("Promise 7", "-20 less the number by which it FAILS.", EdgesOfRuns::failuresByNumber);
        Edges.sentence("Promise 9", "THE BOARD as it was ahead of the latest run()", EdgesOfRuns::boardAheadOfTheLatest);
        Edges.sentence("Promise 9", "that was not undone, FAILED or had a FAULT,", EdgesOfRuns::notThoseThatFailed);
        Edges.sentence("Promise 9", "and then further back, 6 times at most: 1;", EdgesOfRuns::sixTimesAtMost);
        Edges.sentence("Promise 9", "0: there is none such.", EdgesOfRuns::noneSuch);
        Edges.sentence("What it is", "An object is used for at most 512 calls after it has been made; what later calls answer is free.", EdgesOfRuns::the512thCall);
    }

    // ---- steps done

    private static void stepsDone() {
        Shop x = new Shop();
        x.done("", 0);
        x.done("bare;", 1);
        x.done("bare; lay b 20; cut b 20; mask 0; coat b 20; whole; want g = 0;", 7);
        x.done("repeat 0 {};", 1);
        x.done("repeat 9 {};", 1);
        x.done("repeat 0 { bare; bare; };", 1);
        x.done("repeat 1 { bare; bare; };", 3);
        x.done("repeat 9 { bare; bare; };", 19);
        x.done("repeat 2 { repeat 0 { bare; }; };", 3);
        x.done("repeat 2 { repeat 3 {}; };", 3);
        x.done("repeat 2 { bare; repeat 3 { bare; }; bare; };", 1 + 2 * (1 + 1 + 3 + 1));
        x.done("repeat 2 { repeat 2 { repeat 2 { repeat 2 {}; }; }; };", 1 + 2 + 4 + 8);
        x.done("repeat 1 { repeat 2 { bare; }; repeat 2 { drop; }; }; bare;", 1 + 3 + 3 + 1);
    }

    private static void beyondThreeHundred() {
        Shop x = new Shop();
        x.done(MANY, 298);
        x.done(MORE, 299);
        x.done(MORE + "bare;", 300);
        x.fails(MORE + "bare;bare;", FAIL_STEPS, MORE.length() + 5);
        x.fails(MORE + "bare;\n lay b 1; want a = 0;", FAIL_STEPS, MORE.length() + 7);
        x.done(MORE + "repeat 9{};", 300);
        x.done(MORE + "repeat 0{bare;};", 300);
        x.fails(MORE + "repeat 1{ bare;};", FAIL_STEPS, MORE.length() + 10);
        x.fails(MORE + "bare;repeat 0{};", FAIL_STEPS, MORE.length() + 5);
        // the 300th can fail in its own way, the 301st can't
        x.fails(MORE + "want a=0;", FAIL_WANT, MORE.length());
        x.fails(MORE + "bare;want a=0;", FAIL_STEPS, MORE.length() + 5);
        String[] steps = {"lay b 1;", "cut b 1;", "dope b c 1 b;", "coat b 1;", "etch b 1;", "turn b c 1;", "fill b 1;", "flat 20;",
            "drop;", "mask 7;", "bare;", "want a>0;", "whole;", "repeat 1{};"};
        for (String step : steps) {
            Shop y = new Shop();
            y.done(MORE + step, 300);
            y.fails(MORE + "bare;" + step, FAIL_STEPS, MORE.length() + 5);
        }
        deepWithin();
    }

    private static void deepWithin() {
        Shop x = new Shop();
        // 1 + 9 (1 + 9 (1 + ..)): far too many, and it ends at once
        x.fails("repeat 9{".repeat(4) + "bare;" + "};".repeat(4), FAIL_STEPS, 36);
        x.fails("repeat 9{".repeat(4) + "};".repeat(4), FAIL_STEPS, 27);
        x.done("repeat 9{repeat 9{repeat 2{};};};", 1 + 9 + 81);
        x.done("repeat 9{repeat 9{repeat 9{};bare;};};" + "bare;".repeat(56), 1 + 9 + 162 + 56);
        // a failure within leaves no open repeat to the next run
        x.fails("repeat 9{repeat 9{lay b 1;cut b 1; want a = 0;};};", FAIL_WANT, 35);
        x.done("lay c 1; repeat 2 { lay d 1; };", 4);
        is(x.volume(3), 144);
        is(x.volume(4), 288);
    }

    private static void undoneAsAWhole() {
        String[] ends = {"want g = 0;", "whole;", "repeat 9 { repeat 9 { repeat 9 {bare;}; }; };"};
        int[] ahead = {0, 0, 32};
        for (int fail = FAIL_WANT; fail <= FAIL_STEPS; fail++) {
            Shop x = new Shop();
            x.only(0, 0);
            x.rect(3, 0, 0, 11, 5, true);
            x.done("lay b 2; mask 3; lay c 2;", 3);
            int before = x.digest();
            String all = "mask 3; lay d 2; cut d 1; bare; dope b e 3 cd; coat f 2; turn f e 1; etch a 1; mask 0; lay g 1; lay a 1; etch g 1; lay g 1; ";
            x.fails(all + ends[fail - 1], fail, all.length() + ahead[fail - 1]);
            is(x.digest(), before);
            is(x.volume(3), 144);
            is(x.undo(), 1);
            is(x.volume(10), 144);
            is(x.undo(), 0);
        }
    }

    // ---- Promise 7

    private static void tapeStays() {
        Shop x = new Shop();
        is(x.run(), 0);
        x.tape("lay b 1;");
        is(x.run(), 1);
        is(x.run(), 1);
        is(x.volume(2), 288);
        is(x.cut(8), 0);
        is(x.cut(9), Shop.OUTSIDE);
        x.put("lay c", 8);
        is(x.run(), -11);
        is(x.run(), -11);
        is(x.cut(8), 5);
        is(x.run(), 1);
        x.put("want a = 0;", 8);
        is(x.run(), -21);
        is(x.run(), -21);
        is(x.cut(19), 0);
        is(x.cut(0), 19);
    }

    private static void faultDoesNothing() {
        Shop x = new Shop();
        x.fault("lay b 1; lay b 1; oops", 1, 18);
        x.fault("lay b 1; lay b 0;", 2, 15);
        x.fault("lay b 1;" + "repeat 1{".repeat(5), 3, 44);
        x.fault("lay b 1;".repeat(61), 4, 480);
        // a fault behind what would fail, or go on for too long
        x.fault("want a = 0; oops", 1, 12);
        x.fault("repeat 9{".repeat(4) + "bare;" + "};".repeat(4) + "!", 1, 49);
        is(x.volume(10), 144);
        is(x.undo(), 0);
    }

    private static void failuresByNumber() {
        Shop x = new Shop();
        x.only(0, 0);
        x.fails("want a = 0;", 1, 0);
        x.fails("mask 0; lay b 1; lay c 1; etch b 1; whole;", 2, 36);
        x.fails(MORE + "bare;bare;", 3, MORE.length() + 5);
        x.fails("mask 0; lay b 1; lay c 1; etch b 1; want a = 0; whole;", 1, 36);
        is(x.undo(), 0);
    }

    // ---- Promise 9

    private static void layRuns(Shop x, int times) {
        for (int i = 0; i < times; i++) {
            x.done("lay b 1;", 1);
        }
    }

    private static void undone(Shop x, int... tops) {
        for (int top : tops) {
            is(x.undo(), 1);
            is(x.top(0), top);
        }
    }

    private static void boardAheadOfTheLatest() {
        Shop x = new Shop();
        x.rect(0, 2, 2, 9, 9, true);
        x.done("mask 0; lay b 2; coat c 1; etch b 1; drop;", 5);
        int first = x.digest();
        x.done("turn c d 2; flat 2; fill e 3;", 3);
        x.section(0, 5);
        is(x.undo(), 1);
        is(x.digest(), first);
        is(x.undo(), 1);
        is(x.digest(), new LayerShop().digest());
        is(x.volume(1), 144);
        // what is no board stays as it is
        is(x.masked(0, 26), 1);
        is(x.out(259), 10);
        is(x.cut(29), 0);
        is(x.place(), NONE);
        is(x.run(), 3);
    }

    private static void notThoseThatFailed() {
        Shop x = new Shop();
        layRuns(x, 2);
        x.fails("lay c 1; want a = 0;", 1, 9);
        x.fault("lay c", 1, 5);
        undone(x, 1);
        x.fails("lay c 1; want a = 0;", 1, 9);
        x.fault("lay c 0;", 2, 6);
        // the latest one that was not undone is the first one
        undone(x, 0);
        is(x.undo(), 0);
        // one that is undone can't be undone again: a new one comes behind the one before it
        layRuns(x, 3);
        undone(x, 2);
        layRuns(x, 1);
        undone(x, 2, 1);
        layRuns(x, 2);
        undone(x, 2, 1, 0);
        is(x.undo(), 0);
        // failures, as many as there may be, cost none of six
        layRuns(x, 6);
        for (int i = 0; i < 8; i++) {
            x.fails("lay c 1; want a = 0;", 1, 9);
            x.fault("lay c 1;!", 1, 8);
        }
        undone(x, 5, 4, 3, 2, 1, 0);
        is(x.undo(), 0);
    }

    private static void sixTimesAtMost() {
        for (int runs = 1; runs <= 9; runs++) {
            Shop x = new Shop();
            layRuns(x, runs);
            for (int i = 1; i <= Math.min(runs, 6); i++) {
                undone(x, runs - i);
            }
            int left = Math.max(0, runs - 6);
            is(x.undo(), 0);
            is(x.top(0), left);
            is(x.undo(), 0);
            // a new run can be undone again, and nothing further back
            layRuns(x, 1);
            undone(x, left);
            is(x.undo(), 0);
            is(x.top(0), left);
        }
        Shop x = new Shop();
        layRuns(x, 16);
        undone(x, 15, 14, 13);
        layRuns(x, 2);
        undone(x, 14, 13, 12, 11, 10);
        is(x.undo(), 0);
        layRuns(x, 7);
        undone(x, 16, 15, 14, 13, 12, 11);
        is(x.undo(), 0);
    }

    private static void noneSuch() {
        Shop x = new Shop();
        is(x.undo(), 0);
        x.fault("oops", 1, 0);
        x.fails("want a = 0;", 1, 0);
        is(x.undo(), 0);
        is(x.place(), 0);
        // a program of no steps was run, too
        x.done("", 0);
        is(x.undo(), 1);
        is(x.undo(), 0);
        is(x.undo(), 0);
        is(x.volume(10), 144);
    }

    // ---- the last call

    private static void the512thCall() {
        Shop x = new Shop();
        x.rect(0, 0, 0, 5, 5, true);
        x.tape("mask 0; lay b 1; bare; lay c 1;");
        int calls = 5;
        for (; calls < 500; calls += 5) {
            is(x.run(), 4);
            is(x.section(calls % 2, 5), 260);
            is(x.undo(), 1);
            is(x.nets(127), 1);
            is(x.device(1, 3), 144);
        }
        for (; calls < 511; calls++) {
            is(x.run(), 4);
        }
        is(x.undo(), 1);
        Due.due("calls made", x.calls().size(), Shop.CALLS_MOST);
    }
}
