/** The board and what is asked of it: Terms 1, promises 1 and 10 to 14. */
final class EdgesOfBoard {
    private static final int NONE = Shop.NONE, UNKNOWN = Shop.UNKNOWN, OUTSIDE = Shop.OUTSIDE;
    private static final int LEAST = Integer.MIN_VALUE, MOST = Integer.MAX_VALUE;
    private static final int[] NO_PLACES = {-1, 144, LEAST, MOST};
    private static final int[] NO_HEIGHTS = {-1, 20, LEAST, MOST};

    private EdgesOfBoard() {
    }

    private static void is(int got, int want) {
        Edges.is(got, want);
    }

    static void all() {
        terms();
        Edges.sentence("Promise 1", "THE BOARD as at first", EdgesOfBoard::boardAsAtFirst);
        Edges.sentence("Promise 1", "MASKS empty", EdgesOfBoard::masksEmptyAtFirst);
        Edges.sentence("Promise 1", "THE TAPE, THE OUT are empty", EdgesOfBoard::tapeAndOutEmptyAtFirst);
        Edges.sentence("Promise 1", "nothing can be undone.", EdgesOfBoard::nothingToUndoAtFirst);
        Edges.sentence("Promise 10", "What CUBE z of a PLACE is. UNKNOWN (also z).", EdgesOfBoard::atOfEachBorder);
        Edges.sentence("Promise 11", "TOP of a PLACE. UNKNOWN.", EdgesOfBoard::topOfEachBorder);
        Edges.sentence("Promise 12", "How many CUBES: what = 0 empty, 1 .. 7 of a STUFF, 8 OPEN, 9 that FLOAT, 10 not empty, "
            + "11 empty ones that are not OPEN.", EdgesOfBoard::volumeOfEmptyFullAndMixed);
        Edges.sentence("Promise 12", "OUTSIDE.", EdgesOfBoard::volumeBelow0Above11);
        Edges.sentence("Promise 13", "How many SPANS a PLACE has (i = NONE);", EdgesOfBoard::spansNoneToTwenty);
        Edges.sentence("Promise 13", "of SPAN i: what = 0 its STUFF (0: empty), 1 how high, 2 its lowest height.", EdgesOfBoard::spanFirstAndLast);
        Edges.sentence("Promise 13", "UNKNOWN, OUTSIDE (what; it is not looked at with i = NONE).", EdgesOfBoard::spanRefused);
        Edges.sentence("Promise 14", "The least PLACE with a SPAN of a STUFF (1 .. 7) that is less than n (1 .. 20) high; NONE.",
            EdgesOfBoard::thinOfEachHeight);
        Edges.sentence("Promise 14", "NONE. OUTSIDE.", EdgesOfBoard::thinRefused);
    }

    private static void terms() {
        Edges.untested("Terms 0", "Words in capitals are told where they come first.");
        Edges.sentence("Terms 0", "What has a number has it from 0 on.", EdgesOfBoard::numbersFromZero);
        Edges.sentence("Terms 0", "NONE is -1.", EdgesOfBoard::noneIsMinusOne);
        Edges.sentence("Terms 1", "THE BOARD has 12 by 12 PLACES", EdgesOfBoard::twelveByTwelvePlaces);
        Edges.sentence("Terms 1", "PLACE 12 y + x;", EdgesOfBoard::placeIsTwelveYPlusX);
        Edges.sentence("Terms 1", "over each of them 20 CUBES, by heights z from 0 (the lowest) to 19.", EdgesOfBoard::twentyHeights);
        Edges.sentence("Terms 1", "A CUBE is empty (0) or of a STUFF 1 to 7, written a to g.", EdgesOfBoard::stuffsAToG);
        Edges.sentence("Terms 1", "At first all CUBES of height 0 are a, all others empty.", EdgesOfBoard::boardAsAtFirst);
        Edges.sentence("Terms 1", "CUBES are BESIDE one another, if they differ by one in just one of x, y, z.", EdgesOfBoard::besideInJustOne);
        Edges.sentence("Terms 1", "OPEN are the empty CUBES that are joined, by empty ones BESIDE one another, to an empty CUBE of height 19",
            EdgesOfBoard::openIsJoinedToHeight19);
        Edges.sentence("Terms 1", "(which is OPEN itself).", EdgesOfBoard::emptyCubeOfHeight19IsOpen);
        Edges.sentence("Terms 1", "A CUBE that is not empty STANDS, if it is joined, by such ones, to one of height 0;", EdgesOfBoard::standsOnOneLeg);
        Edges.sentence("Terms 1", "else it FLOATS.", EdgesOfBoard::floatsBesideACorner);
        Edges.sentence("Terms 1", "The TOP of a PLACE: the height of its highest CUBE that is not empty;", EdgesOfBoard::topIsTheHighest);
        Edges.sentence("Terms 1", "NONE: there is none.", EdgesOfBoard::noTop);
        Edges.sentence("Terms 1", "MASKS 0 .. 7 are sets of PLACES", EdgesOfMasks::masksZeroToSeven);
        Edges.sentence("Terms 1", "(empty at first).", EdgesOfBoard::masksEmptyAtFirst);
        Edges.sentence("Terms 1", "THE MASK is one of them, or all PLACES (at the beginning of each run).", EdgesOfMasks::allPlacesAtEachBeginning);
    }

    // ---- Terms 0

    private static void numbersFromZero() {
        Shop x = new Shop();
        is(x.masked(0, 0), 0);
        is(x.masked(-1, 0), UNKNOWN);
        is(x.masked(0, -1), UNKNOWN);
        is(x.at(0, 0), 1);
        is(x.at(0, -1), UNKNOWN);
        is(x.span(0, 0, 0), 1);
        is(x.span(0, 1, 0), UNKNOWN);
        is(x.netOf(0, 0, 1), 0);
        is(x.net(0, 1, 0), 0);
        is(x.net(1, 1, 0), UNKNOWN);
        is(x.section(0, 0), 260);
        is(x.out(0), '.');
        is(x.out(-1), NONE);
        x.fault(";", 1, 0);
        x.done("mask 0;", 1);
    }

    private static void noneIsMinusOne() {
        Due.due("NONE", LayerShop.NONE, -1);
        Shop x = new Shop();
        is(x.place(), -1);
        is(x.out(0), -1);
        is(x.span(0, -1, 0), 1);
        is(x.netOf(0, 0, 2), -1);
        is(x.thin(2, 20), -1);
        is(x.device(2, 2), -1);
        x.done("flat 0;", 1);
        is(x.top(0), -1);
    }

    // ---- Terms 1

    private static void twelveByTwelvePlaces() {
        Shop x = new Shop();
        for (int place : new int[] {0, 143}) {
            is(x.masked(0, place), 0);
            is(x.at(place, 0), 1);
            is(x.top(place), 0);
            is(x.span(place, NONE, 0), 1);
            is(x.netOf(place, 0, 1), 0);
            is(x.joined(place, 143 - place, 1), 1);
        }
        for (int place : NO_PLACES) {
            is(x.masked(0, place), UNKNOWN);
            is(x.at(place, 0), UNKNOWN);
            is(x.top(place), UNKNOWN);
            is(x.span(place, NONE, 0), UNKNOWN);
            is(x.span(place, 0, 0), UNKNOWN);
            is(x.netOf(place, 0, 1), UNKNOWN);
            is(x.joined(place, 0, 1), UNKNOWN);
            is(x.joined(0, place, 1), UNKNOWN);
        }
        is(x.turned(0), 144);
        is(x.volume(10), 144);
    }

    private static void placeIsTwelveYPlusX() {
        Shop x = new Shop();
        for (int place = 0; place < 144; place++) {
            is(x.rect(0, place % 12, place / 12, place % 12, place / 12, true), 1);
            is(x.masked(0, place), 1);
            is(x.rect(0, place % 12, place / 12, place % 12, place / 12, false), 0);
        }
        x.rect(0, 11, 0, 11, 0, true);
        x.rect(1, 0, 11, 0, 11, true);
        x.done("mask 0; lay b 1; mask 1; lay c 2;", 4);
        is(x.at(11, 1), 2);
        is(x.at(132, 2), 3);
        is(x.at(12, 1), 0);
    }

    private static void twentyHeights() {
        Shop x = new Shop();
        x.only(0, 143);
        x.done("lay b 18; mask 0; lay c 20;", 3);
        is(x.at(143, 0), 1);
        is(x.at(143, 18), 2);
        is(x.at(143, 19), 3);
        is(x.at(0, 19), 0);
        is(x.netOf(143, 19, 4), 0);
        for (int z : NO_HEIGHTS) {
            is(x.at(143, z), UNKNOWN);
            is(x.netOf(143, z, 4), UNKNOWN);
        }
        is(x.volume(0), 143);
        is(x.volume(10), 2880 - 143);
    }

    private static void stuffsAToG() {
        Shop x = new Shop();
        x.done("cut a 1;", 1);
        for (int stuff = 1; stuff <= 7; stuff++) {
            x.done("lay " + (char) ('a' + stuff - 1) + " 1;", 1);
            is(x.at(77, stuff - 1), stuff);
            is(x.volume(stuff), 144);
        }
        is(x.at(77, 7), 0);
        x.fault("lay h 1;", 1, 4);
        x.fault("lay ` 1;", 1, 4);
        x.section(0, 0);
        for (int stuff = 1; stuff <= 7; stuff++) {
            is(x.out(13 * (20 - stuff)), 'a' + stuff - 1);
        }
    }

    /** Two cubes of b among c: how many nets of b they are. */
    private static void twoCubes(int place, int z, int other, int otherZ, int nets) {
        Shop x = new Shop();
        x.only(0, place);
        x.only(1, other);
        x.done("cut a 1;", 1);
        int low = Math.min(z, otherZ);
        if (place == other) {
            x.done("mask 0;" + "lay c 1;".repeat(low) + "lay b 1;" + "lay c 1;".repeat(Math.abs(z - otherZ) - 1) + "lay b 1;", 3 + Math.max(z, otherZ) - 1);
        } else {
            x.done("mask 0;" + "lay c 1;".repeat(z) + "lay b 1; mask 1;" + "lay c 1;".repeat(otherZ) + "lay b 1;", 4 + z + otherZ);
        }
        Due.due("cubes of b", x.volume(2), 2);
        is(x.nets(2), nets);
    }

    private static void besideInJustOne() {
        twoCubes(0, 1, 1, 1, 1);
        twoCubes(0, 1, 12, 1, 1);
        twoCubes(0, 1, 0, 2, 1);
        twoCubes(142, 1, 143, 1, 1);
        twoCubes(131, 1, 143, 1, 1);
        // by two in one
        twoCubes(0, 1, 2, 1, 2);
        twoCubes(0, 1, 24, 1, 2);
        twoCubes(0, 1, 0, 3, 2);
        // by one in two or three
        twoCubes(0, 1, 13, 1, 2);
        twoCubes(1, 1, 12, 1, 2);
        twoCubes(0, 1, 1, 2, 2);
        twoCubes(0, 1, 12, 2, 2);
        twoCubes(0, 1, 13, 2, 2);
        // numbers that differ as those of neighbours do, across the end of a row, of a height
        twoCubes(11, 1, 12, 1, 2);
        twoCubes(131, 1, 132, 1, 2);
        twoCubes(143, 1, 0, 2, 2);
        twoCubes(132, 1, 0, 2, 2);
        twoCubes(143, 1, 11, 2, 2);
        twoCubes(0, 0, 143, 0, 2);
    }

    private static void openIsJoinedToHeight19() {
        Shop x = new Shop();
        x.only(0, 13, 14);
        x.only(1, 14);
        x.only(2, 0);
        x.only(3, 1);
        x.allBut(4, 13, 14);
        // b under a roof of c, but d at two places: one is cut open, and the other one is etched from there
        x.done("mask 0; lay d 1; mask 4; lay b 1; bare; lay c 1;", 6);
        is(x.volume(8), 17 * 144);
        x.done("mask 1; cut cd 2; etch d 1;", 3);
        is(x.volume(8), 17 * 144 + 2 + 1);
        is(x.volume(11), 0);
        x.done("mask 1; lay b 1; lay c 1;", 3);
        is(x.volume(8), 17 * 144);
        is(x.volume(11), 1);
        // a corner does not join, a side does
        x.done("mask 2; cut cb 2;", 2);
        is(x.volume(8), 17 * 144 + 2);
        is(x.volume(11), 1);
        x.done("mask 3; cut cb 2;", 2);
        is(x.volume(8), 17 * 144 + 5);
        is(x.volume(11), 0);
        openAtOnePlace();
    }

    /** A shaft down to height 0 at one place, and from its foot a pipe along the board's edges. */
    private static void openAtOnePlace() {
        Shop x = new Shop();
        x.only(0, 143);
        x.done("lay b 20; mask 0; cut b 20; cut a 1; etch a 20;", 5);
        // all places but those 21 or more from the shaft
        is(x.volume(1), 3);
        is(x.volume(8), 20 + 143 - 3);
        is(x.volume(11), 0);
        x.done("etch a 1;", 1);
        is(x.volume(1), 1);
        x.done("etch a 1;", 1);
        is(x.volume(8), 20 + 143);
        x.done("mask 0; lay c 20;", 2);
        is(x.volume(8), 0);
        is(x.volume(11), 143);
        is(x.volume(9), 0);
    }

    private static void emptyCubeOfHeight19IsOpen() {
        Shop x = new Shop();
        is(x.volume(8), 2736);
        x.done("lay b 18;", 1);
        is(x.volume(8), 144);
        x.only(0, 77);
        x.done("lay b 1; mask 0; cut b 1;", 3);
        is(x.volume(8), 1);
        is(x.volume(11), 0);
        x.done("lay b 1;", 1);
        is(x.volume(8), 0);
        x.done("flat 0;", 1);
        is(x.volume(8), 2880);
    }

    private static void standsOnOneLeg() {
        Shop x = new Shop();
        is(x.volume(9), 0);
        x.only(0, 0);
        // b lies on a; a is etched away from one corner on, until the far corner alone is left
        x.done("lay b 1; mask 0; cut ab 2; etch a 20; etch a 1;", 5);
        is(x.volume(1), 1);
        is(x.at(143, 0), 1);
        is(x.volume(9), 0);
        x.done("whole;", 1);
        x.done("etch a 1;", 1);
        is(x.volume(9), 143);
        is(x.volume(10), 143);
        x.fails("whole;", 2, 0);
        x.done("mask 0; lay b 1;", 2);
        is(x.volume(9), 143);
        x.done("mask 0; lay b 1;", 2);
        is(x.volume(9), 0);
        x.done("mask 0; cut b 2; bare; drop; whole;", 5);
        is(x.volume(10), 0);
        is(x.volume(9), 0);
    }

    private static void floatsBesideACorner() {
        Shop x = new Shop();
        x.only(0, 0);
        x.only(1, 1);
        x.only(2, 11);
        x.only(3, 12);
        x.done("mask 0; lay b 1; lay c 1;", 3);
        is(x.volume(9), 0);
        x.done("etch b 1;", 1);
        is(x.volume(9), 1);
        x.done("mask 1; lay d 1;", 2);
        is(x.volume(9), 1);
        x.done("mask 1; lay d 1;", 2);
        is(x.volume(9), 0);
        x.done("mask 1; cut d 2; mask 2; lay d 9;", 4);
        is(x.volume(9), 1);
        // place 12 floats beside the other edge's tower, which is not beside it
        x.done("mask 0; cut c 1; mask 3; lay b 1; lay c 1; etch b 1;", 6);
        is(x.volume(9), 1);
    }

    private static void topIsTheHighest() {
        Shop x = new Shop();
        is(x.top(0), 0);
        x.only(0, 0);
        x.done("mask 0; lay b 1; lay c 1; etch b 1;", 4);
        is(x.at(0, 1), 0);
        is(x.top(0), 2);
        x.done("mask 0; lay b 16;", 2);
        is(x.top(0), 18);
        x.done("mask 0; lay b 1;", 2);
        is(x.top(0), 19);
        x.done("mask 0; lay b 1;", 2);
        is(x.top(0), 19);
    }

    private static void noTop() {
        Shop x = new Shop();
        x.only(0, 0);
        x.done("mask 0; cut a 1;", 2);
        is(x.top(0), NONE);
        is(x.top(1), 0);
        x.done("mask 0; lay g 1;", 2);
        is(x.top(0), 0);
        x.done("flat 0;", 1);
        is(x.top(0), NONE);
        is(x.top(143), NONE);
    }

    // ---- Promise 1

    private static void boardAsAtFirst() {
        for (int z = 0; z < 20; z += 3) {
            Shop x = new Shop();
            for (int place = 0; place < 144; place++) {
                for (int up = z; up < Math.min(20, z + 3); up++) {
                    is(x.at(place, up), up == 0 ? 1 : 0);
                }
            }
        }
        // what one object does is not seen by another
        Shop used = new Shop();
        used.rect(0, 0, 0, 11, 11, true);
        used.done("lay b 5;", 1);
        used.section(0, 0);
        Shop x = new Shop();
        is(x.volume(0), 2736);
        is(x.volume(1), 144);
        is(x.masked(0, 0), 0);
        is(x.cut(0), 0);
        is(x.undo(), 0);
        is(x.out(0), NONE);
    }

    private static void masksEmptyAtFirst() {
        for (int k = 0; k < 8; k++) {
            Shop x = new Shop();
            for (int place = 0; place < 144; place++) {
                is(x.masked(k, place), 0);
            }
            is(x.turned(k), 144);
        }
    }

    private static void tapeAndOutEmptyAtFirst() {
        Shop x = new Shop();
        is(x.out(0), NONE);
        is(x.out(259), NONE);
        is(x.place(), NONE);
        is(x.cut(1), OUTSIDE);
        is(x.cut(0), 0);
        is(x.run(), 0);
        is(x.place(), NONE);
        is(x.feed(0, 0, 0, 0, 0), 20);
    }

    private static void nothingToUndoAtFirst() {
        Shop x = new Shop();
        is(x.undo(), 0);
        is(x.volume(1), 144);
        is(x.undo(), 0);
    }

    // ---- Promises 10 to 12

    private static void atOfEachBorder() {
        Shop x = new Shop();
        x.only(0, 0);
        x.only(1, 143);
        x.done("mask 0; lay b 18; lay c 1; mask 1; cut a 1; lay g 1;", 6);
        is(x.at(0, 0), 1);
        is(x.at(0, 18), 2);
        is(x.at(0, 19), 3);
        is(x.at(143, 0), 7);
        is(x.at(143, 1), 0);
        is(x.at(143, 19), 0);
        for (int place : NO_PLACES) {
            is(x.at(place, 0), UNKNOWN);
            is(x.at(place, 19), UNKNOWN);
            is(x.at(place, 20), UNKNOWN);
        }
        for (int z : NO_HEIGHTS) {
            is(x.at(0, z), UNKNOWN);
            is(x.at(143, z), UNKNOWN);
        }
        // places so far out that their cubes' numbers would wrap into the board
        is(x.at(1 << 30, 1 << 30), UNKNOWN);
        is(x.at(144, -1), UNKNOWN);
        is(x.at(-144, 1), UNKNOWN);
    }

    private static void topOfEachBorder() {
        Shop x = new Shop();
        x.only(0, 0, 11, 132, 143);
        x.done("mask 0; lay b 3;", 2);
        for (int place : new int[] {0, 11, 132, 143}) {
            is(x.top(place), 3);
        }
        for (int place : new int[] {1, 10, 12, 131, 133, 142}) {
            is(x.top(place), 0);
        }
        for (int place : NO_PLACES) {
            is(x.top(place), UNKNOWN);
        }
    }

    private static void volumes(Shop x, int... want) {
        for (int what = 0; what < 12; what++) {
            is(x.volume(what), want[what]);
        }
    }

    private static void volumeOfEmptyFullAndMixed() {
        Shop x = new Shop();
        volumes(x, 2736, 144, 0, 0, 0, 0, 0, 0, 2736, 0, 144, 0);
        x.done("flat 0;", 1);
        volumes(x, 2880, 0, 0, 0, 0, 0, 0, 0, 2880, 0, 0, 0);
        x.done("lay g 20;", 1);
        volumes(x, 0, 0, 0, 0, 0, 0, 0, 2880, 0, 0, 2880, 0);
        x.done("flat 0; lay a 1; lay b 1; lay c 1; lay d 1; lay e 1; lay f 1; lay g 1;", 8);
        volumes(x, 13 * 144, 144, 144, 144, 144, 144, 144, 144, 13 * 144, 0, 7 * 144, 0);
        // the lowest one under a roof goes, but for a frame of the board's edge, which goes in the end
        Shop y = new Shop();
        y.only(0, 0);
        y.done("cut a 1; lay b 1; lay c 19; mask 0; cut bc 20; etch b 20; etch b 2;", 7);
        volumes(y, 163, 0, 0, 143 * 19, 0, 0, 0, 0, 163, 143 * 19, 143 * 19, 0);
        y.done("mask 0; lay d 20;", 2);
        volumes(y, 143, 0, 0, 143 * 19, 20, 0, 0, 0, 0, 0, 143 * 19 + 20, 143);
    }

    private static void volumeBelow0Above11() {
        Shop x = new Shop();
        is(x.volume(0), 2736);
        is(x.volume(11), 0);
        for (int what : new int[] {-1, 12, 32, -32, LEAST, MOST}) {
            is(x.volume(what), OUTSIDE);
        }
    }

    // ---- Promises 13 and 14

    private static void spansNoneToTwenty() {
        Shop x = new Shop();
        is(x.span(50, NONE, 0), 1);
        x.only(0, 50);
        x.done("mask 0; cut a 1;", 2);
        is(x.span(50, NONE, 0), 0);
        is(x.span(49, NONE, 0), 1);
        x.done("mask 0; repeat 9 { lay b 1; lay c 1; }; lay b 1;", 3 + 18);
        is(x.span(50, NONE, 0), 19);
        x.done("mask 0; lay b 1;", 2);
        is(x.span(50, NONE, 0), 19);
        x.done("mask 0; cut b 1; lay c 1;", 3);
        is(x.span(50, NONE, 0), 20);
        x.done("mask 0; cut bc 20; lay g 20;", 3);
        is(x.span(50, NONE, 0), 1);
        // an empty span at the lowest, one in the midst; those above the top are none
        x.done("cut abg 20; lay b 1; lay c 1; lay b 2; lay d 1;", 5);
        x.done("mask 0; cut bcd 20; etch b 20;", 3);
        is(x.span(0, NONE, 0), 4);
        x.done("flat 4;", 1);
        is(x.span(0, NONE, 0), 2);
    }

    private static void spanIs(Shop x, int place, int i, int stuff, int high, int low) {
        is(x.span(place, i, 0), stuff);
        is(x.span(place, i, 1), high);
        is(x.span(place, i, 2), low);
    }

    private static void spanFirstAndLast() {
        Shop x = new Shop();
        x.only(0, 143);
        spanIs(x, 143, 0, 1, 1, 0);
        x.done("mask 0; cut a 1; lay g 20;", 3);
        spanIs(x, 143, 0, 7, 20, 0);
        is(x.span(143, 1, 0), UNKNOWN);
        x.done("mask 0; cut g 1; lay f 1;", 3);
        spanIs(x, 143, 0, 7, 19, 0);
        spanIs(x, 143, 1, 6, 1, 19);
        is(x.span(143, 2, 0), UNKNOWN);
        x.done("mask 0; cut gf 20; repeat 9 { lay b 1; lay c 1; }; lay b 1; lay c 1;", 2 + 1 + 18 + 2);
        for (int i = 0; i < 20; i++) {
            spanIs(x, 143, i, 2 + i % 2, 1, i);
        }
        is(x.span(143, 20, 0), UNKNOWN);
        // empty ones are spans, too: at the lowest, in the midst
        Shop y = new Shop();
        y.only(0, 50);
        y.done("cut a 1; lay b 1; lay c 1; lay b 2; lay d 1; mask 0; cut bcd 20; etch b 20;", 8);
        spanIs(y, 0, 0, 0, 1, 0);
        spanIs(y, 0, 1, 3, 1, 1);
        spanIs(y, 0, 2, 0, 2, 2);
        spanIs(y, 0, 3, 4, 1, 4);
        is(y.span(0, 4, 0), UNKNOWN);
        is(y.span(50, 0, 0), UNKNOWN);
        // an empty span that comes to lie above the top is none
        y.done("flat 4;", 1);
        spanIs(y, 0, 1, 3, 1, 1);
        is(y.span(0, 2, 0), UNKNOWN);
    }

    private static void spanRefused() {
        Shop x = new Shop();
        for (int what : new int[] {-1, 3, LEAST, MOST}) {
            is(x.span(0, 0, what), OUTSIDE);
            is(x.span(0, NONE, what), 1);
            is(x.span(0, 1, what), UNKNOWN);
            is(x.span(0, -2, what), UNKNOWN);
            is(x.span(144, 0, what), UNKNOWN);
            is(x.span(-1, NONE, what), UNKNOWN);
        }
        for (int i : new int[] {-2, 1, 20, LEAST, MOST}) {
            is(x.span(0, i, 0), UNKNOWN);
        }
    }

    private static void thinOfEachHeight() {
        for (int high = 1; high <= 20; high++) {
            Shop x = new Shop();
            x.only(0, 143);
            x.done("mask 0; cut a 1; lay b " + high + ";", 3);
            for (int n = 1; n <= 20; n++) {
                is(x.thin(2, n), high < n ? 143 : NONE);
            }
            x.only(0, 0);
            x.done("mask 0; cut a 1; lay b " + high + ";", 3);
            is(x.thin(2, 20), high < 20 ? 0 : NONE);
            is(x.thin(2, high), NONE);
        }
        // of several spans of a place one is enough: the lowest, the highest
        Shop x = new Shop();
        x.only(0, 70);
        x.done("cut a 1; lay g 3; mask 0; cut g 1; lay c 1; lay g 3; lay c 10; lay g 4;", 8);
        is(x.thin(7, 2), NONE);
        is(x.thin(7, 3), 70);
        is(x.thin(7, 4), 0);
        is(x.thin(3, 2), 70);
        x.done("mask 0; cut g 3;", 2);
        is(x.thin(7, 2), 70);
        is(x.thin(1, 20), NONE);
    }

    private static void thinRefused() {
        Shop x = new Shop();
        for (int stuff = 1; stuff <= 7; stuff++) {
            is(x.thin(stuff, 1), NONE);
            is(x.thin(stuff, 20), stuff == 1 ? 0 : NONE);
            for (int n : new int[] {0, 21, -1, LEAST, MOST}) {
                is(x.thin(stuff, n), OUTSIDE);
            }
        }
        for (int stuff : new int[] {0, 8, -1, LEAST, MOST}) {
            is(x.thin(stuff, 1), OUTSIDE);
            is(x.thin(stuff, 20), OUTSIDE);
        }
    }
}
