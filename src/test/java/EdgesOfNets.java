/** Nets, spans in order, devices: Terms 4, promises 15 to 19. */
final class EdgesOfNets {
    private static final int NONE = Shop.NONE, UNKNOWN = Shop.UNKNOWN, OUTSIDE = Shop.OUTSIDE;
    private static final int LEAST = Integer.MIN_VALUE, MOST = Integer.MAX_VALUE;
    private static final int[] NO_SETS = {-1, 128, 255, LEAST, MOST};
    private static final int[] NO_PLACES = {-1, 144, LEAST, MOST};

    private EdgesOfNets() {
    }

    private static void is(int got, int want) {
        Edges.is(got, want);
    }

    static void all() {
        Edges.sentence("Terms 4", "NETS for a set of STUFFS (bits 0 .. 6 for a .. g): CUBES of these, joined by such ones;", EdgesOfNets::bitsOfASet);
        Edges.sentence("Terms 4", "numbered by their least CUBE, where CUBES are numbered 144 z + 12 y + x.", EdgesOfNets::numberedByLeastCube);
        Edges.sentence("Terms 4", "SPANS of a PLACE: its CUBES from height 0 to 19, like ones side by side as one (empty ones, too), "
            + "but not the empty ones above the TOP.", EdgesOfNets::spansUpToTheTop);
        Edges.sentence("Terms 4", "A DEVICE of an ORDER of one to four STUFFS (a number of that many figures 1 .. 7, the highest the lowest one):",
            EdgesOfNets::ordersOfOneToFour);
        Edges.sentence("Terms 4", "its SPANS from the lowest on have an ORDER behind one another somewhere in them, none empty between: PLACES where that is so;",
            EdgesOfNets::orderSomewhere);
        Edges.sentence("Terms 4", "DEVICES are such PLACES joined by PLACES beside one another (in x or y).", EdgesOfNets::devicesJoined);
        Edges.sentence("Promise 15", "How many NETS there are for a set (0 .. 127).", EdgesOfNets::netsNoneToMost);
        Edges.sentence("Promise 15", "OUTSIDE.", EdgesOfNets::netsOutside);
        Edges.sentence("Promise 16", "The NET in which CUBE z of a PLACE is; NONE: it is of no STUFF of the set.", EdgesOfNets::netOfFirstAndLast);
        Edges.sentence("Promise 16", "UNKNOWN, OUTSIDE.", EdgesOfNets::netOfRefused);
        Edges.sentence("Promise 17", "Of NET i: what = 0 its least CUBE, 1 how many CUBES, 2 its lowest height, 3 its highest one, "
            + "4 over how many PLACES it has CUBES.", EdgesOfNets::netOfOneCubeAndOfAll);
        Edges.sentence("Promise 17", "UNKNOWN, OUTSIDE (set, what; set ahead of UNKNOWN).", EdgesOfNets::netRefused);
        Edges.sentence("Promise 18", "Whether the CUBES at the TOP of two PLACES are in one NET: 1, 0.", EdgesOfNets::joinedTops);
        Edges.sentence("Promise 18", "UNKNOWN, OUTSIDE.", EdgesOfNets::joinedRefused);
        Edges.sentence("Promise 18", "(0, if one has no TOP, or that is not of the set.)", EdgesOfNets::joinedWithoutTop);
        Edges.sentence("Promise 19", "For an ORDER: what = 0 PLACES where it is, 1 DEVICES, 2 the least such PLACE (NONE), 3 the most PLACES of one DEVICE.",
            EdgesOfNets::deviceNoneToAll);
        Edges.sentence("Promise 19", "OUTSIDE (the ORDER, what).", EdgesOfNets::deviceRefused);
    }

    /** b and c in turns in all ways, over all 2880 cubes: b where x + y + z is even. */
    private static Shop chess() {
        Shop x = new Shop();
        for (int y = 0; y < 12; y++) {
            for (int at = y % 2; at < 12; at += 2) {
                x.rect(0, at, y, at, y, true);
                x.rect(1, at, y, at, y, true);
            }
        }
        is(x.turned(1), 72);
        String round = "mask 0; lay b 1; lay c 1; mask 1; lay c 1; lay b 1;";
        x.done("cut a 1; repeat 9 {" + round + "};" + round, 1 + 1 + 9 * 6 + 6);
        is(x.volume(2), 1440);
        return x;
    }

    // ---- Terms 4

    private static void bitsOfASet() {
        Shop x = new Shop();
        x.done("cut a 1;", 1);
        for (int stuff = 1; stuff <= 7; stuff++) {
            x.only(0, 11 * stuff, 11 * stuff + 48);
            x.done("mask 0; lay " + (char) ('a' + stuff - 1) + " 1;", 2);
        }
        for (int stuff = 1; stuff <= 7; stuff++) {
            int bit = 1 << stuff - 1;
            is(x.nets(bit), 2);
            is(x.netOf(11 * stuff, 0, bit), 0);
            is(x.netOf(11 * stuff + 48, 0, bit), 1);
            is(x.netOf(11 * stuff, 0, 127 - bit), NONE);
        }
        is(x.nets(127), 14);
        is(x.nets(0), 0);
        is(x.nets(65), 4);
        // an empty cube joins none
        is(x.netOf(3, 0, 127), NONE);
    }

    private static void numberedByLeastCube() {
        Shop x = new Shop();
        // by height first, then by y, then by x
        x.only(0, 143);
        x.only(1, 5, 0, 24, 11);
        x.done("mask 0; lay b 1; mask 1; lay c 1; lay b 1;", 5);
        is(x.nets(2), 5);
        int[] least = {144 + 143, 288, 288 + 5, 288 + 11, 288 + 24};
        for (int i = 0; i < 5; i++) {
            is(x.net(i, 2, 0), least[i]);
            is(x.netOf(least[i] % 144, least[i] / 144, 2), i);
        }
        // the least cube, not the one that is highest or has the least place
        Shop y = new Shop();
        y.only(0, 1, 2);
        y.only(1, 0, 1);
        y.only(2, 9);
        y.done("mask 1; lay d 1; mask 0; lay b 1; mask 1; lay b 1; mask 2; lay b 1;", 8);
        is(y.net(0, 2, 0), 144 + 2);
        is(y.netOf(2, 1, 2), 0);
        is(y.netOf(9, 1, 2), 1);
        is(y.netOf(0, 2, 2), 2);
    }

    private static void spansUpToTheTop() {
        Shop x = new Shop();
        x.only(0, 0);
        is(x.span(0, NONE, 0), 1);
        is(x.span(0, 1, 0), UNKNOWN);
        x.done("mask 0; lay b 1; lay c 2; lay b 1; etch c 1;", 5);
        int[][] spans = {{1, 1, 0}, {2, 1, 1}, {0, 2, 2}, {2, 1, 4}};
        is(x.span(0, NONE, 0), 4);
        for (int i = 0; i < 4; i++) {
            for (int what = 0; what < 3; what++) {
                is(x.span(0, i, what), spans[i][what]);
            }
        }
        is(x.span(0, 4, 0), UNKNOWN);
        x.done("mask 0; lay b 15;", 2);
        is(x.span(0, NONE, 0), 4);
        is(x.span(0, 3, 1), 16);
        x.done("mask 0; cut b 16;", 2);
        is(x.span(0, NONE, 0), 2);
        is(x.span(0, 2, 0), UNKNOWN);
    }

    private static boolean isOrder(int number) {
        int figures = 0;
        for (int left = number; left > 0; left /= 10) {
            if (left % 10 < 1 || left % 10 > 7) {
                return false;
            }
            figures++;
        }
        return figures >= 1 && figures <= 4;
    }

    /** All numbers up to five figures, and those whose wrap-around could look like one. */
    private static void ordersOfOneToFour() {
        int taken = 0;
        for (int low = -100; low < 11300; low += 400) {
            Shop x = new Shop();
            for (int number = low; number < low + 400; number++) {
                int answer = x.device(number, 1);
                is(answer, !isOrder(number) ? OUTSIDE : number == 1 ? 1 : 0);
                taken += answer == OUTSIDE ? 0 : 1;
            }
        }
        Due.due("orders", taken, 7 + 49 + 343 + 2401);
        Shop x = new Shop();
        for (int number : new int[] {11111, 77777, 111111, -1, -7777, 100001, 10001, LEAST, MOST, LEAST + 1, 1 << 16 | 1}) {
            is(x.device(number, 0), OUTSIDE);
        }
        // the highest figure is the lowest stuff
        x.done("lay b 1; lay c 1; lay d 1;", 3);
        is(x.device(1234, 0), 144);
        is(x.device(4321, 0), 0);
        is(x.device(12, 0), 144);
        is(x.device(21, 0), 0);
    }

    private static void orderSomewhere() {
        Shop x = new Shop();
        x.done("lay b 2; lay a 1; lay b 3; lay c 12; lay d 1;", 5);
        int[] all = {1, 2, 3, 4, 12, 21, 23, 34, 121, 212, 123, 234, 1212, 2123, 1234};
        for (int order : all) {
            is(x.device(order, 0), 144);
        }
        for (int order : new int[] {11, 22, 13, 24, 14, 32, 43, 41, 122, 343, 1213, 2345, 5, 3444, 2121}) {
            is(x.device(order, 0), 0);
        }
        // d is the span of height 19: nothing comes behind it
        is(x.top(0), 19);
        is(x.device(44, 0), 0);
        is(x.device(41, 0), 0);
        // a false start does not hide the right one
        Shop y = new Shop();
        y.done("lay b 1; lay a 1; lay b 1; lay c 1; lay b 1; lay c 1; lay d 1;", 7);
        is(y.device(123, 0), 144);
        is(y.device(2324, 0), 0);
        is(y.device(2323, 0), 144);
        is(y.device(3234, 0), 144);
        emptyBetween();
    }

    private static void emptyBetween() {
        // 1, 2, empty, 2, 3 from below: at place 0 alone
        Shop x = new Shop();
        x.only(0, 0);
        x.done("mask 0; lay b 1; lay e 1; lay b 1; lay c 1; etch e 1;", 6);
        is(x.device(12, 2), 0);
        is(x.device(23, 2), 0);
        is(x.device(22, 2), NONE);
        is(x.device(122, 2), NONE);
        is(x.device(123, 2), NONE);
        is(x.device(1223, 2), NONE);
        is(x.device(2, 0), 1);
        // nothing below the order's lowest one
        x.done("mask 0; cut c 1; dope b g 1 a; bare; etch ab 20;", 5);
        is(x.device(7, 0), 1);
        is(x.device(77, 0), 0);
        is(x.device(1, 0), 0);
    }

    /** Places of g, and how many devices they are. */
    private static void devicesOf(int devices, int most, int... places) {
        Shop x = new Shop();
        x.only(0, places);
        x.done("mask 0; lay g 1;", 2);
        is(x.device(17, 0), places.length);
        is(x.device(17, 1), devices);
        is(x.device(17, 3), most);
    }

    private static void devicesJoined() {
        devicesOf(1, 2, 0, 1);
        devicesOf(1, 2, 0, 12);
        devicesOf(2, 1, 0, 13);
        devicesOf(2, 1, 1, 12);
        devicesOf(2, 1, 0, 2);
        devicesOf(2, 1, 0, 24);
        devicesOf(2, 1, 11, 12);
        devicesOf(2, 1, 0, 11);
        devicesOf(2, 1, 0, 132);
        devicesOf(2, 1, 0, 143);
        devicesOf(1, 2, 142, 143);
        devicesOf(1, 2, 131, 143);
        devicesOf(2, 5, 0, 1, 2, 14, 16, 13);
        devicesOf(1, 8, 0, 1, 2, 12, 14, 24, 25, 26);
        devicesOf(3, 4, 0, 5, 6, 17, 18, 100);
        // on to the left, and back up, from the least place
        devicesOf(1, 3, 5, 17, 16);
        devicesOf(1, 5, 0, 12, 13, 14, 2);
        devicesOf(1, 7, 11, 23, 22, 21, 33, 45, 44);
        // at unlike heights places are joined all the same
        Shop x = new Shop();
        x.only(0, 0);
        x.only(1, 0, 1);
        x.done("mask 0; lay c 9; mask 1; lay f 1; lay g 1;", 5);
        is(x.device(67, 0), 2);
        is(x.device(67, 1), 1);
    }

    // ---- Promises 15 to 17

    private static void netsNoneToMost() {
        Shop x = chess();
        is(x.nets(2), 1440);
        is(x.nets(4), 1440);
        is(x.nets(6), 1);
        is(x.nets(127), 1);
        is(x.nets(121), 0);
        is(x.nets(0), 0);
        x.done("flat 0;", 1);
        is(x.nets(127), 0);
        is(x.nets(2), 0);
        x.done("lay g 20;", 1);
        is(x.nets(64), 1);
        is(x.nets(63), 0);
    }

    private static void netsOutside() {
        Shop x = new Shop();
        is(x.nets(0), 0);
        is(x.nets(1), 1);
        is(x.nets(127), 1);
        for (int set : NO_SETS) {
            is(x.nets(set), OUTSIDE);
        }
    }

    private static void netOfFirstAndLast() {
        Shop x = chess();
        is(x.netOf(0, 0, 2), 0);
        is(x.netOf(2, 0, 2), 1);
        is(x.netOf(13, 0, 2), 6);
        is(x.netOf(143, 19, 2), NONE);
        is(x.netOf(142, 19, 2), 1439);
        is(x.netOf(143, 19, 4), 1439);
        is(x.netOf(0, 0, 4), NONE);
        is(x.netOf(1, 0, 4), 0);
        is(x.netOf(143, 19, 6), 0);
        is(x.netOf(143, 19, 0), NONE);
        x.done("flat 19;", 1);
        is(x.netOf(143, 19, 127), NONE);
        is(x.netOf(143, 18, 127), 0);
    }

    private static void netOfRefused() {
        Shop x = new Shop();
        is(x.netOf(0, 0, 0), NONE);
        is(x.netOf(143, 19, 127), NONE);
        for (int no : NO_PLACES) {
            is(x.netOf(no, 0, 1), UNKNOWN);
            is(x.netOf(no, 20, 1), UNKNOWN);
            is(x.netOf(no, 0, 128), UNKNOWN);
        }
        for (int no : new int[] {-1, 20, LEAST, MOST}) {
            is(x.netOf(0, no, 1), UNKNOWN);
            is(x.netOf(0, no, -1), UNKNOWN);
        }
        for (int no : NO_SETS) {
            is(x.netOf(0, 0, no), OUTSIDE);
            is(x.netOf(143, 19, no), OUTSIDE);
        }
    }

    private static void netIs(Shop x, int i, int set, int... want) {
        for (int what = 0; what < 5; what++) {
            is(x.net(i, set, what), want[what]);
        }
    }

    private static void netOfOneCubeAndOfAll() {
        Shop x = chess();
        netIs(x, 0, 2, 0, 1, 0, 0, 1);
        netIs(x, 1439, 2, 2878, 1, 19, 19, 1);
        netIs(x, 1439, 4, 2879, 1, 19, 19, 1);
        netIs(x, 0, 6, 0, 2880, 0, 19, 144);
        is(x.net(1440, 2, 0), UNKNOWN);
        // a roof on two legs of unlike heights, one of them outside of the roof's set
        Shop y = new Shop();
        y.only(0, 100);
        y.only(1, 102);
        y.rect(2, 4, 8, 6, 8, true);
        y.done("mask 0; lay b 3; mask 1; lay d 3; mask 2; lay b 1; bare; want b > 0;", 8);
        // b of place 101 lies on a: it is beside the one of place 100 of the same height
        netIs(y, 0, 2, 144 + 100, 5, 1, 4, 2);
        netIs(y, 1, 2, 4 * 144 + 102, 1, 4, 4, 1);
        netIs(y, 0, 10, 144 + 100, 9, 1, 4, 3);
        is(y.net(2, 2, 0), UNKNOWN);
    }

    private static void netRefused() {
        Shop x = new Shop();
        is(x.net(0, 1, 0), 0);
        is(x.net(0, 1, 4), 144);
        for (int what : new int[] {-1, 5, LEAST, MOST}) {
            is(x.net(0, 1, what), OUTSIDE);
            is(x.net(1, 1, what), UNKNOWN);
            is(x.net(-1, 1, what), UNKNOWN);
            is(x.net(0, 0, what), UNKNOWN);
            is(x.net(0, 128, what), OUTSIDE);
        }
        for (int i : new int[] {-1, 1, 2880, LEAST, MOST}) {
            is(x.net(i, 1, 0), UNKNOWN);
            is(x.net(i, 127, 4), UNKNOWN);
            is(x.net(i, 0, 0), UNKNOWN);
            for (int set : NO_SETS) {
                is(x.net(i, set, 0), OUTSIDE);
                is(x.net(i, set, 9), OUTSIDE);
            }
        }
    }

    // ---- Promises 18 and 19

    private static void joinedTops() {
        Shop x = new Shop();
        x.only(0, 0, 1, 3);
        x.only(1, 0);
        is(x.joined(0, 143, 1), 1);
        is(x.joined(143, 0, 127), 1);
        is(x.joined(7, 7, 1), 1);
        x.done("mask 0; lay b 1;", 2);
        is(x.joined(0, 1, 2), 1);
        is(x.joined(1, 3, 2), 0);
        is(x.joined(1, 3, 3), 1);
        is(x.joined(3, 3, 2), 1);
        // the top alone counts, not what is below it
        x.done("mask 1; lay c 1;", 2);
        is(x.joined(0, 1, 2), 0);
        is(x.joined(0, 1, 6), 1);
        is(x.joined(0, 1, 4), 0);
        is(x.joined(0, 0, 4), 1);
        // as high as can be
        x.done("flat 1; lay g 19;", 2);
        is(x.joined(0, 143, 64), 1);
        is(x.joined(0, 143, 1), 0);
    }

    private static void joinedRefused() {
        Shop x = new Shop();
        for (int no : NO_PLACES) {
            is(x.joined(no, 0, 1), UNKNOWN);
            is(x.joined(0, no, 1), UNKNOWN);
            is(x.joined(no, no, 128), UNKNOWN);
            is(x.joined(0, no, -1), UNKNOWN);
        }
        for (int set : NO_SETS) {
            is(x.joined(0, 143, set), OUTSIDE);
        }
        x.done("flat 0;", 1);
        is(x.joined(0, 1, 128), OUTSIDE);
        is(x.joined(0, 144, 128), UNKNOWN);
    }

    private static void joinedWithoutTop() {
        Shop x = new Shop();
        x.only(0, 5, 6);
        is(x.joined(0, 1, 0), 0);
        is(x.joined(0, 1, 126), 0);
        is(x.joined(0, 0, 2), 0);
        x.done("mask 0; cut a 1;", 2);
        is(x.joined(0, 5, 127), 0);
        is(x.joined(5, 0, 127), 0);
        is(x.joined(5, 6, 127), 0);
        is(x.joined(5, 5, 127), 0);
        is(x.joined(0, 4, 1), 1);
        x.done("mask 0; lay b 1;", 2);
        is(x.joined(5, 6, 2), 1);
        is(x.joined(5, 0, 1), 0);
        is(x.joined(0, 5, 1), 0);
        is(x.joined(0, 5, 2), 0);
        is(x.joined(0, 5, 3), 1);
        x.done("flat 0;", 1);
        is(x.joined(0, 143, 127), 0);
        is(x.joined(0, 0, 0), 0);
    }

    private static void deviceIs(Shop x, int order, int... want) {
        for (int what = 0; what < 4; what++) {
            is(x.device(order, what), want[what]);
        }
    }

    private static void deviceNoneToAll() {
        Shop x = new Shop();
        deviceIs(x, 1, 144, 1, 0, 144);
        deviceIs(x, 2, 0, 0, NONE, 0);
        deviceIs(x, 7777, 0, 0, NONE, 0);
        x.only(0, 143);
        x.done("mask 0; lay g 1;", 2);
        deviceIs(x, 17, 1, 1, 143, 1);
        x.only(0, 71, 72, 130, 131);
        x.done("mask 0; lay f 1;", 2);
        deviceIs(x, 6, 4, 3, 71, 2);
        // as on a chess board: as many devices as there can be
        Shop y = chess();
        y.done("mask 0; cut bc 20; lay g 1;", 3);
        deviceIs(y, 7, 72, 72, 0, 1);
        deviceIs(y, 3232, 72, 72, 1, 1);
        y.done("flat 0;", 1);
        deviceIs(y, 7, 0, 0, NONE, 0);
        y.done("lay e 20;", 1);
        deviceIs(y, 5, 144, 1, 0, 144);
        deviceIs(y, 55, 0, 0, NONE, 0);
    }

    private static void deviceRefused() {
        Shop x = new Shop();
        for (int what : new int[] {-1, 4, LEAST, MOST}) {
            is(x.device(1, what), OUTSIDE);
            is(x.device(7777, what), OUTSIDE);
            is(x.device(0, what), OUTSIDE);
        }
        for (int what = 0; what < 4; what++) {
            for (int order : new int[] {0, 8, 9, 10, 18, 80, 707, 778, 1110, 7778, 7780, 8777, 9999, 10000, 11111, -1, -11, LEAST, MOST}) {
                is(x.device(order, what), OUTSIDE);
            }
            is(x.device(1, what), new int[] {144, 1, 0, 144}[what]);
            is(x.device(1111, what), new int[] {0, 0, NONE, 0}[what]);
        }
    }
}
