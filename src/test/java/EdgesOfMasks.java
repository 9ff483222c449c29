/** The masks: promises 2 to 4, and what Terms 1 say of them. */
final class EdgesOfMasks {
    private static final int UNKNOWN = Shop.UNKNOWN, OUTSIDE = Shop.OUTSIDE;
    private static final int LEAST = Integer.MIN_VALUE, MOST = Integer.MAX_VALUE;
    private static final int[] NO_MASKS = {-1, 8, LEAST, MOST};

    private EdgesOfMasks() {
    }

    private static void is(int got, int want) {
        Edges.is(got, want);
    }

    static void all() {
        Edges.sentence("Promise 2", "PLACES from (x0, y0) to (x1, y1), both with it", EdgesOfMasks::bothCornersAreWithIt);
        Edges.sentence("Promise 2", "(0 .. 11 each, x0 <= x1, y0 <= y1)", EdgesOfMasks::cornersRefused);
        Edges.sentence("Promise 2", "are in MASK k, or not: how many it has.", EdgesOfMasks::rectOnAndOff);
        Edges.sentence("Promise 2", "UNKNOWN, OUTSIDE.", EdgesOfMasks::rectOfNoMask);
        Edges.sentence("Promise 3", "Whether a PLACE is in MASK k: 1, 0.", EdgesOfMasks::maskedInside);
        Edges.sentence("Promise 3", "UNKNOWN.", EdgesOfMasks::maskedOfNone);
        Edges.sentence("Promise 4", "MASK k becomes the other PLACES: how many.", EdgesOfMasks::turnedEmptyAndFull);
        Edges.sentence("Promise 4", "UNKNOWN.", EdgesOfMasks::turnedOfNone);
    }

    static void masksZeroToSeven() {
        Shop x = new Shop();
        for (int k = 0; k < 8; k++) {
            is(x.rect(k, 0, 0, k, 0, true), k + 1);
        }
        for (int k = 0; k < 8; k++) {
            is(x.masked(k, k), 1);
            is(x.masked(k, k + 1), 0);
            x.done("mask " + k + "; lay b 1;", 2);
            is(x.volume(2), (k + 1) * (k + 2) / 2);
        }
        x.fault("mask 8;", 2, 5);
        x.fault("mask -1;", 1, 5);
        for (int k : NO_MASKS) {
            is(x.rect(k, 0, 0, 0, 0, true), UNKNOWN);
            is(x.masked(k, 0), UNKNOWN);
            is(x.turned(k), UNKNOWN);
        }
    }

    static void allPlacesAtEachBeginning() {
        Shop x = new Shop();
        x.done("lay b 1;", 1);
        is(x.volume(2), 144);
        x.only(1, 5);
        x.done("mask 0; lay c 1;", 2);
        is(x.volume(3), 0);
        x.done("lay c 1;", 1);
        is(x.volume(3), 144);
        x.done("mask 1; lay d 1;", 2);
        is(x.volume(4), 1);
        // a run that fails, has a fault or is undone leaves no mask behind either
        x.fails("mask 1; want a = 0;", 1, 8);
        x.done("lay e 1;", 1);
        is(x.volume(5), 144);
        x.fault("mask 1; lay", 1, 11);
        x.done("lay f 1;", 1);
        is(x.volume(6), 144);
        x.done("mask 1;", 1);
        is(x.undo(), 1);
        x.done("lay g 1;", 1);
        is(x.volume(7), 144);
        // the mask of a round is still there in the next one and behind them
        Shop y = new Shop();
        y.only(1, 5);
        y.done("repeat 2 { lay b 1; mask 1; }; lay c 1;", 1 + 4 + 1);
        is(y.volume(2), 145);
        is(y.volume(3), 1);
    }

    // ---- Promise 2

    private static void bothCornersAreWithIt() {
        Shop x = new Shop();
        is(x.rect(0, 3, 4, 7, 6, true), 15);
        int[] in = {51, 55, 75, 79, 65};
        int[] out = {38, 39, 50, 56, 43, 74, 80, 87, 91, 92};
        for (int place : in) {
            is(x.masked(0, place), 1);
        }
        for (int place : out) {
            is(x.masked(0, place), 0);
        }
        // a single place at each corner, a whole row, a whole column, all
        is(x.rect(1, 0, 0, 0, 0, true), 1);
        is(x.rect(1, 11, 0, 11, 0, true), 2);
        is(x.rect(1, 0, 11, 0, 11, true), 3);
        is(x.rect(1, 11, 11, 11, 11, true), 4);
        is(x.rect(2, 0, 11, 11, 11, true), 12);
        is(x.rect(3, 11, 0, 11, 11, true), 12);
        is(x.rect(4, 0, 0, 11, 11, true), 144);
        for (int place : new int[] {0, 11, 132, 143}) {
            is(x.masked(1, place), 1);
            is(x.masked(2, place), place >= 132 ? 1 : 0);
            is(x.masked(3, place), place % 12 == 11 ? 1 : 0);
        }
    }

    private static void cornersRefused() {
        Shop x = new Shop();
        is(x.rect(0, 5, 5, 5, 5, true), 1);
        for (int no : new int[] {-1, 12, LEAST, MOST}) {
            for (boolean on : new boolean[] {true, false}) {
                is(x.rect(0, no, 5, 5, 5, on), OUTSIDE);
                is(x.rect(0, 5, no, 5, 5, on), OUTSIDE);
                is(x.rect(0, 5, 5, no, 5, on), OUTSIDE);
                is(x.rect(0, 5, 5, 5, no, on), OUTSIDE);
                is(x.rect(0, no, no, no, no, on), OUTSIDE);
            }
        }
        is(x.rect(0, 6, 5, 5, 5, true), OUTSIDE);
        is(x.rect(0, 5, 6, 5, 5, true), OUTSIDE);
        is(x.rect(0, 11, 0, 0, 11, false), OUTSIDE);
        is(x.rect(0, 0, 11, 11, 0, false), OUTSIDE);
        is(x.rect(0, 0, 0, 0, 0, true), 2);
        is(x.rect(0, 11, 11, 11, 11, true), 3);
    }

    private static void rectOnAndOff() {
        Shop x = new Shop();
        is(x.rect(6, 2, 2, 4, 4, false), 0);
        is(x.rect(6, 2, 2, 4, 4, true), 9);
        is(x.rect(6, 2, 2, 4, 4, true), 9);
        is(x.rect(6, 4, 4, 5, 5, true), 12);
        is(x.rect(6, 3, 3, 3, 3, false), 11);
        is(x.rect(6, 3, 3, 3, 3, false), 11);
        is(x.masked(6, 39), 0);
        is(x.masked(6, 38), 1);
        is(x.rect(6, 0, 0, 11, 11, true), 144);
        is(x.rect(6, 0, 0, 11, 11, false), 0);
        is(x.rect(5, 0, 0, 0, 0, true), 1);
        is(x.rect(7, 0, 0, 0, 0, false), 0);
    }

    private static void rectOfNoMask() {
        Shop x = new Shop();
        for (int k : NO_MASKS) {
            is(x.rect(k, 0, 0, 0, 0, true), UNKNOWN);
            is(x.rect(k, 0, 0, 11, 11, false), UNKNOWN);
            is(x.rect(k, -1, 12, 5, 4, true), UNKNOWN);
        }
        is(x.rect(0, 0, 0, 0, 0, true), 1);
        is(x.rect(7, 0, 0, 0, 0, true), 1);
    }

    // ---- Promises 3 and 4

    private static void maskedInside() {
        Shop x = new Shop();
        x.only(7, 0, 143);
        for (int place = 0; place < 144; place++) {
            is(x.masked(7, place), place == 0 || place == 143 ? 1 : 0);
            is(x.masked(6, place), 0);
        }
        x.turned(7);
        for (int place : new int[] {0, 1, 142, 143}) {
            is(x.masked(7, place), place == 0 || place == 143 ? 0 : 1);
        }
    }

    private static void maskedOfNone() {
        Shop x = new Shop();
        x.turned(0);
        x.turned(7);
        is(x.masked(0, 0), 1);
        is(x.masked(7, 143), 1);
        for (int no : new int[] {-1, LEAST, MOST}) {
            is(x.masked(no, 0), UNKNOWN);
            is(x.masked(0, no), UNKNOWN);
            is(x.masked(no, no), UNKNOWN);
        }
        is(x.masked(8, 0), UNKNOWN);
        is(x.masked(0, 144), UNKNOWN);
        is(x.masked(7, 144), UNKNOWN);
        is(x.masked(8, 144), UNKNOWN);
        is(x.masked(1, -1), UNKNOWN);
        is(x.masked(-1, 144), UNKNOWN);
    }

    private static void turnedEmptyAndFull() {
        Shop x = new Shop();
        for (int k : new int[] {0, 7}) {
            is(x.turned(k), 144);
            is(x.masked(k, 143), 1);
            is(x.turned(k), 0);
            is(x.masked(k, 0), 0);
            is(x.rect(k, 11, 11, 11, 11, true), 1);
            is(x.turned(k), 143);
            is(x.masked(k, 143), 0);
            is(x.masked(k, 142), 1);
            is(x.turned(k), 1);
            is(x.masked(k, 143), 1);
        }
        is(x.masked(1, 0), 0);
        is(x.masked(6, 143), 0);
    }

    private static void turnedOfNone() {
        Shop x = new Shop();
        for (int k : NO_MASKS) {
            is(x.turned(k), UNKNOWN);
        }
        for (int k = 0; k < 8; k++) {
            is(x.masked(k, 0), 0);
        }
    }
}
